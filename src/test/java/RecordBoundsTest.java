/**
 * The boundary cases of partitions and referrers and of the promises 15 to 21, a test for each sentence, which is
 * quoted ahead of it.
 */
public final class RecordBoundsTest {
    private static final int[] FAR = {Integer.MIN_VALUE, -1, 40, Integer.MAX_VALUE};

    public static void main(String[] args) {
        refersNothing();
        refersTheOrigin();
        refersToTheSameOrigin();
        refersStrictly();
        refersAll();
        refersByThePolicyOfThePage();
        partitionsByTheHopThatNavigates();
        partitionsByTheTopPage();
        refusesRequests();
        countsHops();
        tellsTheGreatestHop();
        refusesHops();
        tellsCookiesThatWereSent();
        tellsAsManyAsTheyMayBe();
        refusesPlaces();
        judgesEachEnd();
        judgesByWhatEachAnswerLet();
        countsCookies();
        tellsTheGreatestCookie();
        refusesCookies();
        countsFrom0To2();
        Due.end();
    }

    /** What the pages at https://a/ and http://a/ refer to their own origins, to https://b/ and to http://b/. */
    private static String refers(int policy) {
        HopRules x = new HopRules();
        Told.addresses(x, "https://a/", "http://a/", "https://a:443/1", "http://a:80/1", "https://b/", "http://b/",
            "https://a:80/", "http://a:443/");
        x.page(0, -1, policy);
        x.page(1, -1, policy);
        String all = "";
        for (int request = 0; request < 12; request++) {
            x.request(request / 6, 2 + request % 6, 0, 2, 0, false);
            all = all + x.hop(request, 0) % 10;
        }
        return all;
    }

    /** "0 nothing (0)" */
    private static void refersNothing() {
        Due.is("policy 0", refers(0), "000000000000");
    }

    /** "1 the origin (1)" */
    private static void refersTheOrigin() {
        Due.is("policy 1", refers(1), "111111111111");
    }

    /** "2 the whole address (2) if page and hop are of the same origin, nothing otherwise" */
    private static void refersToTheSameOrigin() {
        Due.is("policy 2", refers(2), "200000" + "020000");
    }

    /**
     * "3 the whole one if they are of the same origin, otherwise nothing if the page is https and the hop http, and
     * the origin in other cases"
     */
    private static void refersStrictly() {
        Due.is("policy 3", refers(3), "201010" + "121111");
    }

    /** "4 the whole one." */
    private static void refersAll() {
        Due.is("policy 4", refers(4), "222222222222");
    }

    /** "The referrer of a hop is, by the policy of the page [...]": not by that of one in which it is */
    private static void refersByThePolicyOfThePage() {
        HopRules x = new HopRules();
        Told.addresses(x, "https://a/", "https://b/");
        for (int policy = 0; policy < 5; policy++) {
            x.page(1, policy - 1, policy);
            x.request(policy, 0, 0, 1, 0, false);
        }
        Due.is("of five pages, each in the one before", "" + x.hop(0, 0) + x.hop(1, 0) + x.hop(2, 0) + x.hop(3, 0)
            + x.hop(4, 0), "01012");
    }

    /** "The partition of a hop is the site of its address, if it navigates [...]" */
    private static void partitionsByTheHopThatNavigates() {
        HopRules x = new HopRules();
        Told.addresses(x, "https://a/", "https://b/", "https://c.b/");
        x.page(0, -1, 0);
        x.page(1, -1, 0);
        x.request(0, 1, 0, 2, 0, false);
        x.request(1, 1, 0, 2, 0, false);
        Due.is("whatever the page is", x.count(0), 1);
        x.request(1, 1, 0, 0, 2, false);
        Due.is("that of a page of that site", x.count(0), 1);
        x.request(0, 1, 0, 0, 2, false);
        Due.is("not that of a page of another one", x.count(0), 2);
        x.setsCookie(1, 1, 1, 1, 0, 3, 0);
        x.redirect(1, 2, 0);
        x.request(0, 1, 0, 2, 0, false);
        Due.is("of each hop its own, and that is its site", Due.sent(x, 4, 1), "1001,");
    }

    /** "[...] and the site of the address of the page's top page otherwise." */
    private static void partitionsByTheTopPage() {
        HopRules x = new HopRules();
        Told.addresses(x, "https://a/", "https://b/", "https://c.a:8/", "http://a/");
        int inner = x.page(1, x.page(0, -1, 0), 0);
        x.request(inner, 1, 0, 0, 0, false);
        x.request(0, 1, 0, 0, 0, false);
        Due.is("of a page in it", x.count(0), 1);
        x.request(x.page(2, -1, 0), 1, 0, 0, 0, false);
        Due.is("of another page of the site", x.count(0), 1);
        x.request(x.page(3, -1, 0), 1, 0, 0, 0, false);
        Due.is("of a page of another scheme", x.count(0), 2);
        x.toggleSuffix(0);
        x.request(2, 1, 0, 0, 0, false);
        Due.is("of what is another site now", x.count(0), 3);
        x.request(0, 1, 0, 0, 0, false);
        Due.is("of what is the same site still", x.count(0), 3);
    }

    /** hops, hop, sent, judged: "Throws IndexOutOfBoundsException if there is no such request [...]" */
    private static void refusesRequests() {
        HopRules x = new HopRules();
        Told.page(x, "https://a/");
        for (int done = 0; done < 41; done++) {
            int behind = done;
            Due.bounds("hops behind the last", () -> x.hops(behind));
            Due.bounds("hop behind the last", () -> x.hop(behind, 0));
            Due.bounds("sent behind the last", () -> x.sent(behind, 0, 0));
            Due.bounds("judged behind the last", () -> x.judged(behind));
            if (done < 40) {
                x.request(0, 0, 0, 0, 0, false);
                Due.is("hops of the last", x.hops(done), 1);
                Due.is("hop of the last", x.hop(done, 0), 0);
                Due.is("sent of the last", x.sent(done, 0, 0), -1);
                Due.is("judged of the last", x.judged(done), 0);
            }
        }
        for (int far : FAR) {
            Due.bounds("hops " + far, () -> x.hops(far));
            Due.bounds("hop " + far, () -> x.hop(far, 0));
            Due.bounds("sent " + far, () -> x.sent(far, 0, 0));
            Due.bounds("judged " + far, () -> x.judged(far));
        }
    }

    /** "[...] one that was refused for mixing, or by its preflight, counts." */
    private static void countsHops() {
        HopRules x = new HopRules();
        Told.addresses(x, "https://a/", "https://b/", "http://b/");
        x.page(0, -1, 0);
        x.request(0, 2, 0, 1, 0, false);
        Due.is("refused for mixing", x.hops(0), 1);
        x.request(0, 1, 2, 1, 0, false);
        Due.is("refused by its preflight", x.hops(1), 1);
        x.redirect(0, 2, 4);
        x.request(0, 0, 0, 1, 0, false);
        Due.is("the second one refused for mixing", x.hops(2), 2);
        x.redirect(0, 1, 4);
        x.request(0, 0, 2, 1, 0, false);
        Due.is("the second one refused by its preflight", x.hops(3), 2);
        x.redirect(0, 0, 4);
        x.request(0, 0, 2, 1, 0, false);
        Due.is("as many as there may be", x.hops(4), 6);
    }

    /**
     * "Returns 1000 * its address (as it was changed for mixing) + 100 * method + 10 * (1 if it was tainted) + its
     * referrer."
     */
    private static void tellsTheGreatestHop() {
        HopRules x = Told.fullOfAddresses();
        x.page(15, -1, 4);
        x.page(7, -1, 4);
        x.allow(0, -2, false, 3, 0);
        x.allow(23, -2, false, 3, 0);
        x.redirect(0, 23, 4);
        x.request(1, 0, 2, 1, 0, true);
        Due.is("the greatest", x.hop(0, 1), 23212);
        x.request(0, 23, 1, 0, 0, false);
        Due.is("as it was changed for mixing", x.hop(1, 0), 7102);
        x.page(0, -1, 0);
        x.request(2, 0, 0, 0, 0, false);
        Due.is("the least", x.hop(2, 0), 0);
    }

    /** hop, sent: "Throws IndexOutOfBoundsException if there is no such [...] hop" */
    private static void refusesHops() {
        HopRules x = new HopRules();
        Told.page(x, "https://a/");
        x.redirect(0, 0, 0);
        x.request(0, 0, 0, 0, 0, false);
        x.redirect(0, -1, 0);
        x.request(0, 0, 0, 0, 0, false);
        for (int far : new int[] {Integer.MIN_VALUE, -1, 6, Integer.MAX_VALUE}) {
            Due.bounds("hop " + far, () -> x.hop(0, far));
            Due.bounds("sent at " + far, () -> x.sent(0, far, 0));
        }
        Due.is("the sixth", x.hop(0, 5), 0);
        Due.is("sent at the sixth", x.sent(0, 5, 0), -1);
        Due.bounds("the second of one", () -> x.hop(1, 1));
        Due.bounds("sent at the second of one", () -> x.sent(1, 1, 0));
    }

    /** "Returns 1000 * name + value, -1 if not so many were sent." */
    private static void tellsCookiesThatWereSent() {
        HopRules x = new HopRules();
        Told.page(x, "https://a/");
        x.setsCookie(0, 0, 0, -1, 0, 1, 0);
        x.request(0, 0, 0, 2, 0, false);
        Due.is("none", x.sent(0, 0, 0), -1);
        x.setsCookie(0, 9, 999, -1, 0, 1, 0);
        x.request(0, 0, 0, 2, 0, false);
        Due.is("the least", x.sent(1, 0, 0), 0);
        Due.is("one alone", x.sent(1, 0, 1), -1);
        x.request(0, 0, 0, 2, 0, false);
        Due.is("the greatest", x.sent(2, 0, 1), 9999);
        Due.is("two alone", x.sent(2, 0, 2), -1);
        Due.is("far behind", x.sent(2, 0, Integer.MAX_VALUE), -1);
    }

    private static void put(HopRules x, int address, int name, int domain, int flags) {
        x.setsCookie(address, name, name, domain, 0, flags, 0);
        x.request(0, address, 0, 2, 0, false);
        x.setsCookie(address, name, -1, -1, 0, 0, 0);
    }

    /** The same sentence: all 10 cookies may be sent at one hop. */
    private static void tellsAsManyAsTheyMayBe() {
        HopRules x = new HopRules();
        Told.addresses(x, "https://a/", "https://b.a/");
        x.page(0, -1, 0);
        for (int name = 0; name < 4; name++) {
            put(x, 1, name, 0, 1);
        }
        x.toggleSuffix(0);
        for (int name = 4; name < 8; name++) {
            put(x, 1, name, -1, 1);
        }
        put(x, 1, 8, -1, 3);
        put(x, 1, 9, -1, 3);
        Due.is("ten", x.cookies(), 10);
        x.request(0, 1, 0, 2, 0, false);
        for (int place = 0; place < 10; place++) {
            Due.is("place " + place, x.sent(10, 0, place), 1001 * place);
        }
        Due.is("place 10", x.sent(10, 0, 10), -1);
        Due.is("place 11", x.sent(10, 0, 11), -1);
    }

    /** sent: "Throws IndexOutOfBoundsException if [...] place is below 0" */
    private static void refusesPlaces() {
        HopRules x = new HopRules();
        Told.page(x, "https://a/");
        x.request(0, 0, 0, 2, 0, false);
        Due.bounds("place -1", () -> x.sent(0, 0, -1));
        Due.bounds("place far below", () -> x.sent(0, 0, Integer.MIN_VALUE));
        Due.is("place 0", x.sent(0, 0, 0), -1);
    }

    /** judged: "Returns as request() told it." */
    private static void judgesEachEnd() {
        HopRules x = new HopRules();
        Told.addresses(x, "https://a/", "https://b/", "http://b:8/", "https://a/1");
        x.page(0, -1, 0);
        x.redirect(3, 3, 0);
        int[] ends = {
            x.request(0, 0, 0, 1, 0, false), x.request(0, 1, 0, 0, 0, false), x.request(0, 2, 0, 0, 0, false),
            x.request(0, 1, 0, 1, 0, false), x.request(0, 3, 0, 1, 0, false), x.request(0, 1, 2, 1, 0, false),
        };
        for (int end = 0; end < 6; end++) {
            Due.is("told", ends[end], end);
            Due.is("judged", x.judged(end), end);
            Due.is("judged again", x.judged(end), end);
        }
    }

    /** "[...] judged anew by the chain of its hops: from their addresses and what each answer let." */
    private static void judgesByWhatEachAnswerLet() {
        HopRules x = new HopRules();
        Told.addresses(x, "https://a/", "https://b/", "http://b:8/", "https://a/1");
        x.page(0, -1, 0);
        x.allow(1, -2, false, 1, 1);
        x.request(0, 1, 2, 1, 0, false);
        x.request(0, 2, 0, 0, 0, false);
        x.request(0, 3, 0, 0, 0, false);
        x.allow(1, -1, false, 0, 0);
        x.pass(1000);
        x.request(0, 1, 0, 1, 0, false);
        x.redirect(0, 0, 0);
        x.request(0, 0, 0, 0, 0, false);
        x.redirect(0, -1, 0);
        x.allow(1, -2, true, 3, 9);
        x.redirect(3, 3, 0);
        Told.address(x, "https://b:8/");
        x.toggleSuffix(0);
        Due.is("it was let", x.judged(0), 0);
        Due.is("there was none with https", x.judged(1), 2);
        Due.is("it did not redirect", x.judged(2), 0);
        Due.is("it was not let", x.judged(3), 3);
        Due.is("it redirected", x.judged(4), 4);
        for (int path = 1; path < 6; path++) {
            x.redirect(x.address(1, 0, 0, path), path == 1 ? 0 : x.address(1, 0, 0, path - 1), 0);
        }
        Due.is("five redirects", x.request(0, x.address(1, 0, 0, 5), 0, 1, 0, false), 0);
        x.redirect(0, 0, 0);
        Due.is("it did not redirect for the sixth time", x.judged(5), 0);
    }

    /** "Returns how many cookies there are." */
    private static void countsCookies() {
        HopRules x = new HopRules();
        for (String host : new String[] {"a", "b", "c"}) {
            x.page(Told.address(x, "https://" + host + "/"), -1, 0);
        }
        Due.is("none", x.cookies(), 0);
        for (int i = 0; i < 10; i++) {
            put(x, i / 4, i, -1, 1);
            Due.is("one more", x.cookies(), i + 1);
        }
        put(x, 2, 0, -1, 1);
        Due.is("as many as there may be", x.cookies(), 10);
    }

    /** "Returns 100000 * its host + 1000 * name + value, and 50000000 more if it is partitioned." */
    private static void tellsTheGreatestCookie() {
        HopRules x = Told.fullOfAddresses();
        x.page(0, -1, 0);
        x.setsCookie(0, 0, 0, -1, 0, 1, 0);
        x.request(0, 0, 0, 2, 0, false);
        x.setsCookie(15, 9, 999, -1, 0, 3, 0);
        x.request(0, 15, 0, 2, 0, false);
        x.setsCookie(15, 9, 999, -1, 0, 1, 0);
        x.request(0, 15, 0, 2, 0, false);
        Due.is("the least", x.cookie(0), 0);
        Due.is("the greatest", x.cookie(1), 51509999);
        Due.is("not partitioned", x.cookie(2), 1509999);
    }

    /** cookie: "0 for the one that was made first of those that there are", "[...] if there is no such cookie" */
    private static void refusesCookies() {
        HopRules x = new HopRules();
        Told.page(x, "https://a/");
        Due.bounds("0 without cookies", () -> x.cookie(0));
        x.setsCookie(0, 1, 1, -1, 0, 1, 5);
        x.request(0, 0, 0, 2, 0, false);
        x.setsCookie(0, 2, 2, -1, 0, 1, 0);
        x.request(0, 0, 0, 2, 0, false);
        for (int cookie : new int[] {Integer.MIN_VALUE, -1, 2, 10, Integer.MAX_VALUE}) {
            Due.bounds("cookie " + cookie, () -> x.cookie(cookie));
        }
        Due.is("the first", x.cookie(0), 1001);
        Due.is("the last", x.cookie(1), 2002);
        x.pass(5);
        Due.is("the first of those that there are", x.cookie(0), 2002);
        Due.bounds("one is gone", () -> x.cookie(1));
    }

    /** "`what`: 0 opened, 1 open, those that were used more than 20 ticks ago included, 2 preflights" */
    private static void countsFrom0To2() {
        HopRules x = new HopRules();
        Told.addresses(x, "https://a/", "https://b/", "https://c/");
        x.page(0, -1, 0);
        for (int what : new int[] {Integer.MIN_VALUE, -1, 3, Integer.MAX_VALUE}) {
            Due.argument("what " + what, () -> x.count(what));
        }
        x.request(0, 0, 0, 0, 0, false);
        x.pass(21);
        Due.is("opened", x.count(0), 1);
        Due.is("open, though used 21 ticks ago", x.count(1), 1);
        x.request(0, 0, 0, 0, 0, false);
        Due.is("opened anew", x.count(0), 2);
        Due.is("open in its place", x.count(1), 1);
        Due.is("no preflights", x.count(2), 0);
        x.request(0, 1, 2, 1, 0, false);
        Due.is("one that refused", x.count(2), 1);
        x.allow(2, -2, false, 1, 1000);
        x.request(0, 2, 2, 1, 0, false);
        Due.is("one that granted", x.count(2), 2);
        x.request(0, 2, 2, 1, 0, false);
        Due.is("one that was kept is no other", x.count(2), 2);
    }
}
