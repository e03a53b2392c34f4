/**
 * The last paragraph of the terms: "If several apply, IndexOutOfBoundsException goes first, then
 * IllegalArgumentException. A call that throws an exception changes nothing." For each call of the face, with every
 * mixture of arguments that are in range and that are not.
 */
public final class RefusedCallsTest {
    private static final String STATE = "IllegalStateException";
    private static final String NONE = "nothing";
    private static final int MIN = Integer.MIN_VALUE;
    private static final int MAX = Integer.MAX_VALUE;

    private static final int[] ADDRESS = {5, -1, 24, MIN, MAX};
    private static final int[] ADDRESS_OR_NONE = {-1, -2, 24, MIN, MAX};
    private static final int[] HOST = {0, -1, 16, MIN, MAX};
    private static final int[] PATH = {9, -1, 10, 1111, MIN, MAX};
    private static final int[] REQUEST = {0, -1, 40, MIN, MAX};
    private static final int[] HOP = {0, -1, 6, MIN, MAX};
    private static final int[] UP_TO_2 = {0, -1, 3, MIN, MAX};

    interface CallOn {
        void run(HopRules x, int[] told);
    }

    interface Scene {
        HopRules make();
    }

    interface Asked {
        int answer();
    }

    public static void main(String[] args) {
        refusesHosts();
        refusesSuffixesAndSites();
        refusesAddresses();
        refusesReferences();
        refusesCharacters();
        refusesRedirects();
        refusesAllowances();
        refusesCookieLines();
        refusesPages();
        refusesRequests();
        refusesMethodsAndHeaders();
        refusesTicks();
        refusesRecords();
        Due.end();
    }

    /** A browser with something of each kind that is kept, told or not seen by asking, and room for more of it. */
    private static HopRules young() {
        HopRules x = new HopRules();
        Told.addresses(x, "https://a/", "https://b.a/", "http://c/", "https://d.c.b.a/9", "https://e:8/",
            "https://a/9");
        fill(x);
        return x;
    }

    /** The same, but with as many hosts, addresses and pages as there may be. */
    private static HopRules full() {
        HopRules x = Told.fullOfAddresses();
        fill(x);
        for (int page = 3; page < 8; page++) {
            x.page(page, -1, page % 5);
        }
        return x;
    }

    /** The same, but with as many requests as there may be. */
    private static HopRules done() {
        HopRules x = full();
        for (int request = 5; request < 40; request++) {
            x.request(0, request % 6, 0, 1, 2, false);
        }
        return x;
    }

    /** Page 0 a top page at 0, page 1 in it, page 2 a top page; five requests. */
    private static void fill(HopRules x) {
        x.page(0, -1, 1);
        x.page(1, 0, 4);
        x.page(2, -1, 3);
        x.toggleSuffix(1);
        x.redirect(5, 0, 3);
        x.redirect(4, 3, 0);
        for (int address = 1; address < 6; address++) {
            x.allow(address, 0, true, 3, 4 * address);
            x.setsCookie(address, address, 5, -1, 0, 1, 6 * address);
        }
        x.setsCookie(0, 8, 5, -1, 0, 3, 0);
        x.pass(7);
        for (int address = 0; address < 5; address++) {
            x.request(0, address, 2, 1, 2, true);
        }
        x.pass(3);
        x.toggleBlocking();
    }

    private static void add(StringBuilder all, Asked asked) {
        try {
            all.append(asked.answer()).append(' ');
        } catch (RuntimeException e) {
            all.append(e.getClass().getSimpleName()).append(' ');
        }
    }

    /** What comes of many calls, so that all that is kept and told has its say. */
    private static String later(HopRules x) {
        StringBuilder all = new StringBuilder(Due.state(x));
        for (int i = 0; i < 24; i++) {
            int address = i % 6;
            add(all, () -> x.request(0, address, 2, 1, 2, true));
            add(all, () -> address == 5 ? x.pass(17) : 0);
            all.append(Due.state(x));
        }
        for (int address = 0; address < 6; address++) {
            int asked = address;
            add(all, () -> x.request(0, asked, 1, 2, 0, false));
        }
        add(all, () -> x.toggleBlocking() ? 1 : 0);
        for (int i = 0; i < 16; i++) {
            int asked = i;
            add(all, () -> x.toggleSuffix(asked) ? 1 : 0);
        }
        for (int i = 0; i < 9; i++) {
            int asked = i;
            add(all, () -> x.page(0, -1, 0));
            add(all, () -> x.request(asked, asked, 0, 0, 2, false));
            add(all, () -> x.host(-1, 100 + asked, false));
            add(all, () -> x.address(0, 0, 200 + asked, 0));
        }
        return all.append(Due.state(x)).toString();
    }

    /** The exception that goes first, where the kind of an argument is B if it is out of bounds otherwise. */
    private static String dueFor(String kinds, int[] place, String ifAllAreGood) {
        String due = ifAllAreGood;
        for (int i = 0; i < place.length; i++) {
            if (place[i] > 0 && kinds.charAt(i) == 'B') {
                return "IndexOutOfBoundsException";
            }
            due = place[i] > 0 ? "IllegalArgumentException" : due;
        }
        return due;
    }

    private static boolean moveOn(int[] place, int[][] values) {
        for (int i = 0; i < place.length; i++) {
            place[i]++;
            if (place[i] < values[i].length) {
                return true;
            }
            place[i] = 0;
        }
        return false;
    }

    /** Calls with every mixture of the values, of which the first is good and the others are not. */
    private static void mix(String name, Scene scene, String kinds, int[][] values, String ifAllAreGood, CallOn call) {
        HopRules x = scene.make();
        int[] place = new int[values.length];
        do {
            int[] told = new int[values.length];
            StringBuilder what = new StringBuilder(name);
            for (int i = 0; i < told.length; i++) {
                told[i] = values[i][place[i]];
                what.append(' ').append(told[i]);
            }
            String due = dueFor(kinds, place, ifAllAreGood);
            if (!due.equals(NONE)) {
                Due.is(what.toString(), Due.thrownBy(() -> call.run(x, told)), due);
            }
        } while (moveOn(place, values));
        Due.is(name + " changes nothing", later(x), later(scene.make()));
    }

    private static void mix(String name, String kinds, int[][] values, String ifFull, CallOn call) {
        mix(name + ", young", RefusedCallsTest::young, kinds, values, NONE, call);
        mix(name + ", full", RefusedCallsTest::full, kinds, values, ifFull, call);
        mix(name + ", done", RefusedCallsTest::done, kinds, values, ifFull, call);
    }

    /** Promise 2. */
    private static void refusesHosts() {
        int[] label = {30, -1, 702, MIN, MAX};
        int[][] values = {{0, -2, 16, MIN, MAX}, label};
        mix("host", "BA", values, STATE, (x, told) -> x.host(told[0], told[1], false));
        mix("HOST", "BA", values, STATE, (x, told) -> x.host(told[0], told[1], true));
        values[0] = new int[] {-1, -2, 16, MIN, MAX};
        mix("host at the top", "BA", values, STATE, (x, told) -> x.host(told[0], told[1], false));
        HopRules young = young();
        int deep = Told.host(young, "d.c.b.a");
        values[0] = new int[] {deep, -2, 16, MIN, MAX};
        mix("host under four", RefusedCallsTest::young, "BA", values, STATE,
            (x, told) -> x.host(told[0], told[1], false));
        mix("host under four, full", RefusedCallsTest::full, "BA", new int[][] {{15, -2, 16}, label}, STATE,
            (x, told) -> x.host(told[0], told[1], false));
    }

    /** Promises 3 and 4. */
    private static void refusesSuffixesAndSites() {
        mix("toggleSuffix", "B", new int[][] {HOST}, NONE, (x, told) -> x.toggleSuffix(told[0]));
        mix("site", "B", new int[][] {HOST}, NONE, (x, told) -> x.site(told[0]));
    }

    /** Promise 5. */
    private static void refusesAddresses() {
        int[][] values = {{0, -1, 2, MIN, MAX}, HOST, {77, -1, 10000, MIN, MAX}, PATH};
        mix("address", "ABAA", values, STATE, (x, told) -> x.address(told[0], told[1], told[2], told[3]));
    }

    /** Promise 6. The last two references have four segments, and five on the way. */
    private static void refusesReferences() {
        int[][] values = {ADDRESS, {27, -1, 0, 3, 30, 99999, 100000, MIN, MAX, 21111, 11111}};
        mix("resolve", "BA", values, STATE, (x, told) -> x.resolve(told[0], told[1]));
    }

    /** Promise 7. */
    private static void refusesCharacters() {
        int[][] values = {ADDRESS, {0, -1, 30, MIN, MAX}};
        mix("text", "BB", values, NONE, (x, told) -> x.text(told[0], told[1]));
    }

    /** Promise 8. */
    private static void refusesRedirects() {
        int[][] values = {ADDRESS, ADDRESS_OR_NONE, {1, -1, 5, MIN, MAX}};
        mix("redirect", "BBA", values, NONE, (x, told) -> x.redirect(told[0], told[1], told[2]));
        values[1] = new int[] {2, -2, 24, MIN, MAX};
        mix("redirect to 2", "BBA", values, NONE, (x, told) -> x.redirect(told[0], told[1], told[2]));
    }

    /** Promise 9. */
    private static void refusesAllowances() {
        int[][] values = {{4, -1, 24, MIN, MAX}, {-3, -4, 24, MIN, MAX}, {3, -1, 4, MIN, MAX},
            {1000, -1, 1001, MIN, MAX}};
        for (int origins = -3; origins < 2; origins++) {
            values[1][0] = origins;
            mix("allow", "BBAA", values, NONE, (x, told) -> x.allow(told[0], told[1], false, told[2], told[3]));
        }
    }

    /** Promise 10. */
    private static void refusesCookieLines() {
        int[][] values = {{5, -1, 24}, {9, -1, 10}, {-1, -2, 1000}, {-1, -2, 16}, {0, -1, 10, 1111}, {63, -1, 64},
            {-1, -2, 1001}};
        for (int value = -1; value < 1; value++) {
            values[2][0] = value;
            mix("setsCookie", "BAABAAA", values, NONE,
                (x, told) -> x.setsCookie(told[0], told[1], told[2], told[3], told[4], told[5], told[6]));
        }
    }

    /** Promise 12. */
    private static void refusesPages() {
        int[][] values = {ADDRESS, {-1, -2, 8, MIN, MAX}, {4, -1, 5, MIN, MAX}};
        mix("page", "BBA", values, STATE, (x, told) -> x.page(told[0], told[1], told[2]));
        values[1][0] = 0;
        mix("page in 0", "BBA", values, STATE, (x, told) -> x.page(told[0], told[1], told[2]));
    }

    /** Promise 13, with 40 requests, and with a page in another one that navigates. */
    private static void refusesRequests() {
        int[] page = {0, -1, 8, MIN, MAX};
        int[] mode = UP_TO_2.clone();
        CallOn call = (x, told) -> x.request(told[0], told[1], told[2], told[3], told[4], false);
        for (int good = 0; good < 3; good++) {
            mode[0] = good;
            int[][] values = {page, ADDRESS, UP_TO_2, mode, UP_TO_2};
            mix("request in the mode " + good, RefusedCallsTest::young, "BBAAA", values, NONE, call);
            mix("request in the mode " + good + ", done", RefusedCallsTest::done, "BBAAA", values, STATE, call);
        }
        int[][] values = {{1, -1, 8}, ADDRESS, UP_TO_2, mode, UP_TO_2};
        mix("an inner page navigates", RefusedCallsTest::young, "BBAAA", values, STATE, call);
        mix("an inner page navigates, done", RefusedCallsTest::done, "BBAAA", values, STATE, call);
    }

    /** Promise 13: "[...] or method and header do not go with the mode" */
    private static void refusesMethodsAndHeaders() {
        for (int mode = 0; mode < 3; mode += 2) {
            for (int page = 0; page < 2; page++) {
                refuseMethodAndHeader(page, mode, 2, false);
                refuseMethodAndHeader(page, mode, 0, true);
                refuseMethodAndHeader(page, mode, 2, true);
            }
        }
    }

    private static void refuseMethodAndHeader(int page, int mode, int method, boolean hasHeader) {
        int[][] values = {{page, -1, 8}, ADDRESS, UP_TO_2};
        String name = "page " + page + ", mode " + mode + ", method " + method;
        CallOn call = (x, told) -> x.request(told[0], told[1], method, mode, told[2], hasHeader);
        mix(name, RefusedCallsTest::young, "BBA", values, "IllegalArgumentException", call);
        mix(name + ", done", RefusedCallsTest::done, "BBA", values, "IllegalArgumentException", call);
    }

    /** Promises 14 and 21. */
    private static void refusesTicks() {
        mix("pass", "A", new int[][] {{1, 0, -1, 1001, MIN, MAX}}, NONE, (x, told) -> x.pass(told[0]));
        mix("count", "A", new int[][] {UP_TO_2}, NONE, (x, told) -> x.count(told[0]));
    }

    /** Promises 15 to 18 and 20. */
    private static void refusesRecords() {
        mix("hops", "B", new int[][] {REQUEST}, NONE, (x, told) -> x.hops(told[0]));
        mix("hop", "BB", new int[][] {REQUEST, HOP}, NONE, (x, told) -> x.hop(told[0], told[1]));
        mix("sent", "BBB", new int[][] {REQUEST, HOP, {0, -1, MIN}}, NONE,
            (x, told) -> x.sent(told[0], told[1], told[2]));
        mix("judged", "B", new int[][] {REQUEST}, NONE, (x, told) -> x.judged(told[0]));
        mix("cookie", "B", new int[][] {{0, -1, 10, MIN, MAX}}, NONE, (x, told) -> x.cookie(told[0]));
    }
}
