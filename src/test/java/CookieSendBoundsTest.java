/**
 * The boundary cases of which cookies are sent at a hop, and in which order ("Cookies", its last paragraph), a test
 * for each sentence, which is quoted ahead of it.
 */
public final class CookieSendBoundsTest {
    private static final int SECURE = 1;
    private static final int PARTITIONED = 2;
    private static final int LAX = 4;
    private static final int STRICT = 8;

    public static void main(String[] args) {
        sendsThoseOfTheHost();
        sendsThoseForHostsUnderTheirs();
        sendsThoseOfTheFirstSegments();
        sendsSecureOnesOnHttpsAlone();
        sendsThoseOfThePartition();
        sendsThoseThatAreNeitherFromAfar();
        sendsLaxOnesWithGetThatNavigates();
        countsStrictAloneWithBoth();
        sendsPartitionedOnesToStrangers();
        sendsThoseWithMoreSegmentsFirst();
        sendsThoseMadeFirst();
        sendsThoseThatThereAreAheadOfSetting();
        sendsNoneWithoutCredentials();
        Due.end();
    }

    /** https: 0 a, 1 c; http: 2 a, 3 c; page 0 at 0. */
    private static HopRules scene() {
        HopRules x = new HopRules();
        Told.addresses(x, "https://a/", "https://c/", "http://a/", "http://c/");
        x.page(0, -1, 0);
        return x;
    }

    /** Sets a cookie with this name and value by navigating, and sets it no more. */
    private static void put(HopRules x, int address, int name, int domain, int path, int flags) {
        x.setsCookie(address, name, name, domain, path, flags, 0);
        x.request(0, address, 0, 2, 0, false);
        x.setsCookie(address, name, -1, -1, 0, 0, 0);
    }

    /** What is sent at the hop of a request that navigates with GET, which is the one with this number. */
    private static String sent(HopRules x, int request, int address) {
        x.request(0, address, 0, 2, 0, false);
        return Due.sent(x, request, 0);
    }

    /** "those cookies are sent whose host is that of the address" */
    private static void sendsThoseOfTheHost() {
        HopRules x = new HopRules();
        Told.addresses(x, "https://b.a/", "https://a/", "https://c.b.a/", "https://d.a/", "https://b/",
            "https://b.a:1/");
        x.page(0, -1, 0);
        put(x, 0, 1, -1, 0, SECURE);
        Due.is("the host", sent(x, 1, 0), "1001,");
        Due.is("one above", sent(x, 2, 1), "");
        Due.is("one under it", sent(x, 3, 2), "");
        Due.is("one beside it", sent(x, 4, 3), "");
        Due.is("one with the same label", sent(x, 5, 4), "");
        Due.is("another port", sent(x, 6, 5), "1001,");
    }

    /** "or which are for hosts under theirs, too, and that lies there" */
    private static void sendsThoseForHostsUnderTheirs() {
        HopRules x = new HopRules();
        Told.addresses(x, "https://b.a/", "https://a/", "https://c.b.a/", "https://d.a/", "https://d.c.b.a/");
        x.page(0, -1, 0);
        put(x, 0, 1, 1, 0, SECURE);
        Due.is("the host", sent(x, 1, 0), "1001,");
        Due.is("one above", sent(x, 2, 1), "");
        Due.is("one under it", sent(x, 3, 2), "1001,");
        Due.is("one far under it", sent(x, 4, 4), "1001,");
        Due.is("one beside it", sent(x, 5, 3), "");
        HopRules y = new HopRules();
        Told.addresses(y, "https://c.b.a/", "https://a/", "https://d.a/");
        y.page(0, -1, 0);
        put(y, 0, 1, 0, 0, SECURE);
        Due.is("for the top, at the top", sent(y, 1, 1), "1001,");
        Due.is("for the top, elsewhere", sent(y, 2, 2), "1001,");
    }

    /** "whose segments are the first segments of the path of the address" */
    private static void sendsThoseOfTheFirstSegments() {
        int[][] first = {{0, 0}, {0, 1}, {0, 999}, {1, 1}, {1, 12}, {1, 111}, {9, 999}, {12, 12}, {12, 123},
            {99, 999}, {123, 123}};
        int[][] other = {{1, 0}, {1, 2}, {1, 21}, {1, 211}, {2, 12}, {12, 1}, {12, 21}, {12, 112}, {12, 312},
            {11, 1}, {123, 12}, {123, 0}, {123, 124}};
        for (int[] paths : first) {
            Due.is(paths[0] + " at " + paths[1], isSentAt(paths[0], paths[1]), true);
        }
        for (int[] paths : other) {
            Due.is(paths[0] + " at " + paths[1], isSentAt(paths[0], paths[1]), false);
        }
    }

    private static boolean isSentAt(int path, int place) {
        HopRules x = scene();
        put(x, 0, 1, -1, path, SECURE);
        return sent(x, 1, x.address(1, 0, 0, place)).equals("1001,");
    }

    /** "which are not secure, unless the hop is https" */
    private static void sendsSecureOnesOnHttpsAlone() {
        HopRules x = scene();
        put(x, 0, 1, -1, 0, SECURE);
        put(x, 0, 2, -1, 0, SECURE | LAX);
        put(x, 0, 3, -1, 0, LAX);
        Due.is("https", sent(x, 3, 0), "1001,2002,3003,");
        Due.is("http", sent(x, 4, 2), "3003,");
        put(x, 2, 4, -1, 0, LAX);
        Due.is("one that http set", sent(x, 6, 0), "1001,2002,3003,4004,");
    }

    /** "which are in no partition, or in that of the hop" */
    private static void sendsThoseOfThePartition() {
        HopRules x = scene();
        put(x, 1, 1, -1, 0, SECURE);
        put(x, 1, 2, -1, 0, SECURE | PARTITIONED);
        x.setsCookie(1, 3, 3, -1, 0, SECURE | PARTITIONED, 0);
        x.request(0, 1, 0, 0, 2, false);
        x.setsCookie(1, 3, -1, -1, 0, 0, 0);
        Due.is("navigates", sent(x, 3, 1), "1001,2002,");
        x.request(0, 1, 0, 0, 2, false);
        Due.is("of the page", Due.sent(x, 4, 0), "1001,3003,");
        x.request(x.page(1, -1, 0), 1, 0, 1, 1, false);
        Due.is("of a page there", Due.sent(x, 5, 0), "1001,2002,");
        x.request(x.page(3, -1, 0), 1, 0, 0, 2, false);
        Due.is("of a page of another scheme", Due.sent(x, 6, 0), "1001,");
    }

    /** Cookies 1 to 4: neither, lax, strict, both; and how they are sent from afar with the mode and the method. */
    private static String fromAfar(int mode, int method) {
        HopRules x = scene();
        put(x, 1, 1, -1, 0, SECURE);
        put(x, 1, 2, -1, 0, LAX);
        put(x, 1, 3, -1, 0, STRICT);
        put(x, 1, 4, -1, 0, LAX | STRICT);
        x.request(0, 1, method, mode, 2, false);
        return Due.sent(x, 4, 0);
    }

    /** "if the request is from afar: which are neither lax nor strict [...]" */
    private static void sendsThoseThatAreNeitherFromAfar() {
        Due.is("free, GET", fromAfar(0, 0), "1001,");
        Due.is("free, POST", fromAfar(0, 1), "1001,");
        Due.is("asked, GET", fromAfar(1, 0), "1001,");
        HopRules x = scene();
        put(x, 0, 1, -1, 0, LAX);
        put(x, 0, 2, -1, 0, STRICT);
        x.request(0, 0, 1, 1, 1, false);
        Due.is("not from afar", Due.sent(x, 2, 0), "1001,2002,");
        x.request(x.page(0, x.page(1, -1, 0), 0), 0, 0, 1, 1, false);
        Due.is("from a foreign page", Due.sent(x, 3, 0), "");
    }

    /** "or are lax, and it navigates with GET" */
    private static void sendsLaxOnesWithGetThatNavigates() {
        Due.is("GET", fromAfar(2, 0), "1001,2002,");
        Due.is("POST", fromAfar(2, 1), "1001,");
        for (int status = 0; status < 5; status++) {
            HopRules x = scene();
            put(x, 1, 2, -1, 0, LAX);
            x.redirect(0, 1, status);
            x.request(0, 0, 1, 2, 0, false);
            Due.is("POST that is redirected by " + status, Due.sent(x, 1, 1), status < 3 ? "2002," : "");
        }
    }

    /** "(with both strict alone counts)" */
    private static void countsStrictAloneWithBoth() {
        HopRules x = scene();
        put(x, 1, 1, -1, 0, LAX | STRICT);
        put(x, 1, 2, -1, 0, STRICT);
        Due.is("from afar, navigates with GET", sent(x, 2, 1), "");
        int page = x.page(1, -1, 0);
        x.request(page, 1, 0, 2, 0, false);
        Due.is("not from afar", Due.sent(x, 3, 0), "1001,2002,");
    }

    /** "and, if strangers are blocked, and it is from afar and does not navigate, which are partitioned." */
    private static void sendsPartitionedOnesToStrangers() {
        HopRules x = scene();
        put(x, 1, 1, -1, 0, SECURE);
        x.setsCookie(1, 2, 2, -1, 0, SECURE | PARTITIONED, 0);
        x.request(0, 1, 0, 0, 2, false);
        x.setsCookie(1, 2, -1, -1, 0, 0, 0);
        put(x, 0, 3, -1, 0, SECURE);
        for (int times = 0; times < 2; times++) {
            String[] due = {"1001,2002,", "2002,"};
            x.request(0, 1, 0, 0, 2, false);
            Due.is("from afar", Due.sent(x, 3 + 4 * times, 0), due[times]);
            x.request(0, 1, 0, 1, 2, false);
            Due.is("from afar, asked", Due.sent(x, 4 + 4 * times, 0), due[times]);
            Due.is("navigates", sent(x, 5 + 4 * times, 1), "1001,");
            x.request(0, 0, 0, 0, 2, false);
            Due.is("not from afar", Due.sent(x, 6 + 4 * times, 0), "3003,");
            x.toggleBlocking();
        }
    }

    /** "Those with more segments are sent first" */
    private static void sendsThoseWithMoreSegmentsFirst() {
        for (int path : new int[] {111, 119, 191, 199, 123, 321, 911, 987, 991, 999}) {
            int[] paths = {0, path / 100, path / 10, path};
            HopRules x = scene();
            HopRules y = scene();
            for (int name = 0; name < 4; name++) {
                put(x, 0, name, -1, paths[name], SECURE);
                put(y, 0, 3 - name, -1, paths[3 - name], SECURE);
            }
            Due.is("made the other way round, " + path, sent(x, 4, x.address(1, 0, 0, path)), "3003,2002,1001,0,");
            Due.is("made in this order, " + path, sent(y, 4, y.address(1, 0, 0, path)), "3003,2002,1001,0,");
        }
    }

    /** "of as many those that were made first" */
    private static void sendsThoseMadeFirst() {
        HopRules x = scene();
        put(x, 0, 9, -1, 1, SECURE);
        put(x, 0, 0, -1, 1, SECURE);
        put(x, 0, 5, -1, 0, SECURE);
        put(x, 0, 4, -1, 0, SECURE);
        int deep = Told.address(x, "https://a/1");
        Due.is("by the making", sent(x, 4, deep), "9009,0,5005,4004,");
        x.setsCookie(0, 9, 8, -1, 1, SECURE, 0);
        x.request(0, 0, 0, 2, 0, false);
        Due.is("one that was replaced keeps its place", sent(x, 6, deep), "9008,0,5005,4004,");
    }

    /** "if they are used, cookies are sent": 3., ahead of 4., in which one is set */
    private static void sendsThoseThatThereAreAheadOfSetting() {
        HopRules x = scene();
        x.setsCookie(0, 1, 1, -1, 0, SECURE, 0);
        x.redirect(0, 0, 0);
        Due.is("none at the first hop", sent(x, 0, 0), "");
        Due.is("the one that it set at the second", Due.sent(x, 0, 1), "1001,");
        x.setsCookie(0, 1, 2, -1, 0, SECURE, 0);
        Due.is("the old one ahead of the new one", sent(x, 1, 0), "1001,");
        Due.is("the new one at the second hop", Due.sent(x, 1, 1), "1002,");
        x.setsCookie(0, 1, 3, -1, 0, SECURE, -1);
        Due.is("the old one ahead of its going", sent(x, 2, 0), "1002,");
        Due.is("none at the second hop", Due.sent(x, 2, 1), "");
    }

    /** The same sentence: without credentials none are sent. */
    private static void sendsNoneWithoutCredentials() {
        HopRules x = scene();
        put(x, 0, 1, -1, 0, SECURE);
        put(x, 1, 2, -1, 0, SECURE);
        String[][] due = {{"", "1001,", "1001,"}, {"", "", "2002,"}};
        for (int address = 0; address < 2; address++) {
            for (int credentials = 0; credentials < 3; credentials++) {
                x.request(0, address, 0, 0, credentials, false);
                String got = Due.sent(x, 2 + 3 * address + credentials, 0);
                Due.is("address " + address + ", credentials " + credentials, got, due[address][credentials]);
            }
        }
    }
}
