/**
 * The boundary cases of "Requests", but for preflights, and of the promises 13 and 15 to 18, a test for each
 * sentence, which is quoted ahead of it.
 */
public final class RequestBoundsTest {
    public static void main(String[] args) {
        numbersFortyRequests();
        refusesTheFortyFirstRequest();
        refusesPagesAndAddresses();
        refusesMethods();
        refusesModes();
        refusesCredentials();
        takesPutAndHeadersInTheMode1Alone();
        letsTopPagesNavigateAlone();
        navigatesWithCredentialsWhateverIsTold();
        beginsWithoutATaint();
        mixesByPageHopAndMode();
        changesToTheSamePartsAlone();
        usesCredentialsToTheSameOrigin();
        setsTheCookieOfAHopThatIsRefused();
        letsAllOrigins();
        letsOneOrigin();
        letsTheTaint();
        refusesTheSixthRedirect();
        refusesAheadOfTheSixthRedirect();
        changesMethods();
        taintsBehindCrossHops();
        taintsInTheMode1Alone();
        endsReadableOrOpaque();
        Due.end();
    }

    /** https: 0 a, 1 b, 2 c; http: 3 a, 4 b; page 0 at 0, page 1 at 3. */
    private static HopRules scene() {
        HopRules x = new HopRules();
        Told.addresses(x, "https://a/", "https://b/", "https://c/", "http://a/", "http://b/");
        x.page(0, -1, 0);
        x.page(3, -1, 0);
        return x;
    }

    private static int free(HopRules x, int page, int address) {
        return x.request(page, address, 0, 0, 0, false);
    }

    private static int ask(HopRules x, int page, int address) {
        return x.request(page, address, 0, 1, 0, false);
    }

    private static int navigate(HopRules x, int page, int address) {
        return x.request(page, address, 0, 2, 0, false);
    }

    /** "Requests are numbered from 0, at most 40." */
    private static void numbersFortyRequests() {
        HopRules x = scene();
        for (int i = 0; i < 40; i++) {
            int asked = i;
            Due.bounds("not yet " + i, () -> x.hops(asked));
            Due.is("how it ends " + i, free(x, 0, i % 2), i % 2);
            Due.is("its number is " + i, x.judged(i), i % 2);
        }
    }

    /** request: "Throws IllegalStateException if there are 40 requests [...]" */
    private static void refusesTheFortyFirstRequest() {
        HopRules x = scene();
        for (int i = 0; i < 40; i++) {
            free(x, 0, 0);
        }
        Due.state("free", () -> free(x, 0, 0));
        Due.state("asked", () -> x.request(1, 4, 2, 1, 2, true));
        Due.state("navigates", () -> navigate(x, 0, 1));
        Due.bounds("none came of it", () -> x.hops(40));
        Due.is("no connection came of it", x.count(0), 1);
    }

    /** request: "Throws IndexOutOfBoundsException if there is no such page or address" */
    private static void refusesPagesAndAddresses() {
        HopRules x = Told.fullOfAddresses();
        Due.bounds("0 without pages", () -> free(x, 0, 0));
        for (int page = 0; page < 8; page++) {
            x.page(page, -1, 0);
        }
        for (int far : new int[] {Integer.MIN_VALUE, -1, 24, Integer.MAX_VALUE}) {
            Due.bounds("page " + far, () -> free(x, far, 0));
            Due.bounds("address " + far, () -> free(x, 0, far));
        }
        Due.bounds("page 8", () -> free(x, 8, 0));
        Due.is("the first ones", navigate(x, 0, 0), 0);
        Due.is("the last ones", navigate(x, 7, 23), 0);
        Due.is("the last address", x.hop(1, 0), 23000);
    }

    /** "a method, GET (0), POST (1) or PUT (2)" */
    private static void refusesMethods() {
        HopRules x = scene();
        for (int method : new int[] {Integer.MIN_VALUE, -1, 3, Integer.MAX_VALUE}) {
            for (int mode = 0; mode < 3; mode++) {
                int told = mode;
                Due.argument("method " + method, () -> x.request(0, 0, method, told, 0, false));
            }
        }
        x.request(0, 0, 0, 1, 0, false);
        x.request(0, 0, 2, 1, 0, false);
        Due.is("the least", x.hop(0, 0), 0);
        Due.is("the greatest", x.hop(1, 0), 200);
    }

    /** "a mode, free (0), asked (1) or to navigate (2)" */
    private static void refusesModes() {
        HopRules x = scene();
        for (int mode : new int[] {Integer.MIN_VALUE, -1, 3, Integer.MAX_VALUE}) {
            Due.argument("mode " + mode, () -> x.request(0, 0, 0, mode, 0, false));
            Due.argument("mode with a header " + mode, () -> x.request(0, 0, 2, mode, 0, true));
        }
        Due.is("the least", free(x, 0, 1), 1);
        Due.is("the one between", ask(x, 0, 1), 3);
        Due.is("the greatest", navigate(x, 0, 1), 0);
    }

    /** "credentials, none (0), to the same origin (1) or always (2)" */
    private static void refusesCredentials() {
        HopRules x = scene();
        for (int credentials : new int[] {Integer.MIN_VALUE, -1, 3, Integer.MAX_VALUE}) {
            for (int mode = 0; mode < 3; mode++) {
                int told = mode;
                Due.argument("credentials " + credentials, () -> x.request(0, 0, 0, told, credentials, false));
            }
        }
        x.setsCookie(0, 1, 1, -1, 0, 1, 0);
        x.request(0, 0, 0, 0, 0, false);
        Due.is("the least", x.cookies(), 0);
        x.request(0, 0, 0, 0, 2, false);
        Due.is("the greatest", x.cookies(), 1);
    }

    /** "In the modes 0 and 2 there is no PUT and no header of its own." */
    private static void takesPutAndHeadersInTheMode1Alone() {
        HopRules x = scene();
        for (int mode = 0; mode < 3; mode += 2) {
            int told = mode;
            Due.argument("PUT in the mode " + mode, () -> x.request(0, 0, 2, told, 0, false));
            Due.argument("a header in the mode " + mode, () -> x.request(0, 0, 0, told, 0, true));
            Due.argument("POST with a header in the mode " + mode, () -> x.request(0, 0, 1, told, 0, true));
            Due.argument("both in the mode " + mode, () -> x.request(0, 0, 2, told, 0, true));
            Due.is("POST in the mode " + mode, x.request(0, 0, 1, told, 0, false), 0);
        }
        Due.is("PUT in the mode 1", x.request(0, 0, 2, 1, 0, false), 0);
        Due.is("a header in the mode 1", x.request(0, 0, 0, 1, 0, true), 0);
        Due.is("both in the mode 1", x.request(0, 0, 2, 1, 0, true), 0);
    }

    /** "Only top pages navigate." */
    private static void letsTopPagesNavigateAlone() {
        HopRules x = scene();
        int inner = x.page(0, 0, 0);
        int deep = x.page(0, inner, 0);
        Due.state("an inner page", () -> navigate(x, inner, 0));
        Due.state("one in that", () -> navigate(x, deep, 0));
        Due.bounds("none came of it", () -> x.hops(0));
        Due.is("no connection came of it", x.count(0), 0);
        Due.is("an inner page asks", ask(x, inner, 0), 0);
        Due.is("an inner page is free", free(x, deep, 0), 0);
        Due.is("a top page", navigate(x, 0, 0), 0);
    }

    /** "[...] and always in the mode 2, whatever is told" */
    private static void navigatesWithCredentialsWhateverIsTold() {
        HopRules x = scene();
        for (int credentials = 0; credentials < 3; credentials++) {
            x.setsCookie(1, credentials, credentials, -1, 0, 1, 0);
            x.request(0, 1, 0, 2, credentials, false);
            Due.is("cookies with " + credentials, x.cookies(), credentials + 1);
        }
        Due.is("one connection", x.count(0), 1);
    }

    /** "It goes from hop to hop, beginning with the address, without a taint" */
    private static void beginsWithoutATaint() {
        HopRules x = scene();
        x.allow(1, -3, true, 3, 0);
        Due.is("cross, and no taint", ask(x, 0, 1), 3);
        Due.is("its hop", x.hop(0, 0), 1000);
        Due.is("its hops", x.hops(0), 1);
    }

    /** "If the page's address is https, that of the hop http, and it does not navigate [...]" */
    private static void mixesByPageHopAndMode() {
        // How the three modes end for an https and an http page at an https and an http address without another scheme.
        String[][] due = {{"000", "220"}, {"000", "000"}};
        for (int page = 0; page < 2; page++) {
            for (int address = 0; address < 2; address++) {
                HopRules x = scene();
                Told.addresses(x, "https://a:7/1", "http://a:7/2");
                x.allow(5, -2, false, 0, 0);
                x.allow(6, -2, false, 0, 0);
                String ends = "";
                for (int mode = 0; mode < 3; mode++) {
                    int end = x.request(page, 5 + address, 0, mode, 0, false);
                    ends = ends + (end == 1 ? 0 : end);
                }
                Due.is("page " + page + ", address " + address, ends, due[page][address]);
            }
        }
        HopRules x = scene();
        ask(x, 0, 4);
        free(x, 0, Told.address(x, "http://b:7/"));
        Due.is("mixing uses no connection", x.count(0), 0);
        Due.is("one that was refused for mixing counts", x.hops(0) + x.hops(1), 2);
    }

    private static void changes(String told, String there, boolean due) {
        HopRules x = scene();
        int safe = Told.address(x, there);
        int asked = Told.address(x, told);
        int end = free(x, 0, asked);
        Due.is(told + " to " + there, end, due ? 1 : 2);
        Due.is(told + " to " + there + ": hop", x.hop(0, 0), 1000 * (due ? safe : asked));
    }

    /** "in the mode 0 the hop is to the address with https and else the same parts, if there is one" */
    private static void changesToTheSamePartsAlone() {
        changes("http://d/", "https://d/", true);
        changes("http://d:1/", "https://d:1/", true);
        changes("http://d:9999/9/9/9", "https://d:9999/9/9/9", true);
        changes("http://d/", "https://d:443/", false);
        changes("http://d:80/", "https://d/", false);
        changes("http://d/", "https://d:80/", false);
        changes("http://d/", "https://d/1", false);
        changes("http://d/1/2", "https://d/1", false);
        changes("http://d/", "https://d.d/", false);
        HopRules x = scene();
        Due.is("in the mode 1 it is refused", ask(x, 0, 4), 2);
        Due.is("as it was told", x.hop(0, 0), 4000);
    }

    /** "Credentials are used if they are always, or to the same origin and it is not cross." */
    private static void usesCredentialsToTheSameOrigin() {
        // Whether they are used with 0, 1 and 2 at home, at another origin, and at home with a taint.
        String[] due = {"011", "001", "001"};
        for (int place = 0; place < 3; place++) {
            HopRules x = scene();
            x.allow(0, -3, true, 0, 0);
            x.allow(1, 0, true, 0, 0);
            x.redirect(1, place == 2 ? 0 : -1, 0);
            String used = "";
            for (int credentials = 0; credentials < 3; credentials++) {
                x.setsCookie(place == 1 ? 1 : 0, 1, 1, -1, 0, 1, 0);
                x.request(0, place == 0 ? 0 : 1, 0, 1, credentials, false);
                used = used + x.cookies();
            }
            Due.is("place " + place, used, due[place]);
        }
    }

    /** "If credentials are used, the cookie that the answer sets, if there is one, is set." (ahead of 5. and 6.) */
    private static void setsTheCookieOfAHopThatIsRefused() {
        HopRules x = scene();
        x.setsCookie(1, 1, 1, -1, 0, 1, 0);
        x.request(0, 1, 0, 1, 0, false);
        Due.is("without credentials", x.cookies(), 0);
        Due.is("not let", x.request(0, 1, 0, 1, 2, false), 3);
        Due.is("its cookie", Due.cookies(x), "101001,");
        x.setsCookie(0, 2, 2, -1, 0, 1, 0);
        x.redirect(0, 0, 0);
        Due.is("too many redirects", navigate(x, 0, 0), 4);
        Due.is("its cookie, too", Due.cookies(x), "101001,2002,");
    }

    /** How a request of page 0 for address 1 with each of the credentials ends. */
    private static String lets(HopRules x, int address) {
        String ends = "";
        for (int credentials = 0; credentials < 3; credentials++) {
            ends = ends + x.request(0, address, 0, 1, credentials, false);
        }
        return ends;
    }

    /** "the answer lets the request if it allows all origins and the credentials are not always" */
    private static void letsAllOrigins() {
        HopRules x = scene();
        x.allow(1, -2, false, 0, 0);
        Due.is("without credentials", lets(x, 1), "003");
        x.allow(1, -2, true, 0, 0);
        Due.is("with credentials, all the same", lets(x, 1), "003");
        x.redirect(1, 2, 0);
        x.allow(2, -2, true, 0, 0);
        Due.is("tainted", lets(x, 1), "003");
        Due.is("two hops", x.hop(6, 1), 2010);
    }

    /**
     * "or if it allows one origin, the page's address is of that, it is not tainted, and it allows credentials or
     * these are not always"
     */
    private static void letsOneOrigin() {
        HopRules x = scene();
        x.allow(1, 0, false, 0, 0);
        Due.is("without credentials", lets(x, 1), "003");
        x.allow(1, 0, true, 0, 0);
        Due.is("with credentials", lets(x, 1), "000");
        x.allow(1, 3, true, 0, 0);
        Due.is("another origin", lets(x, 1), "333");
        x.allow(1, 1, true, 0, 0);
        Due.is("the origin of the address itself", lets(x, 1), "333");
        x.allow(1, 0, true, 0, 0);
        x.allow(2, 0, true, 0, 0);
        x.redirect(1, 2, 0);
        Due.is("tainted", lets(x, 1), "333");
    }

    /** "or if it allows the taint, the request is tainted, and it allows credentials or these are not always" */
    private static void letsTheTaint() {
        HopRules x = scene();
        x.allow(1, 0, true, 0, 0);
        x.redirect(1, 2, 0);
        x.allow(2, -3, false, 0, 0);
        Due.is("without credentials", lets(x, 1), "003");
        x.allow(2, -3, true, 0, 0);
        Due.is("with credentials", lets(x, 1), "000");
        Due.is("not tainted", lets(x, 2), "333");
    }

    /** Addresses 0 to 6 in a row, each redirecting to the next one; page 0 at 0. */
    private static HopRules row() {
        HopRules x = new HopRules();
        for (int path = 1; path < 8; path++) {
            Told.address(x, "https://a:" + path + "/");
        }
        for (int i = 0; i < 6; i++) {
            x.redirect(i, i + 1, 3);
            x.allow(i + 1, -2, false, 0, 0);
        }
        x.page(0, -1, 0);
        return x;
    }

    /** "with the sixth redirect the request is refused (4)." */
    private static void refusesTheSixthRedirect() {
        for (int mode = 0; mode < 3; mode++) {
            HopRules x = row();
            x.setsCookie(6, 9, 9, -1, 0, 1, 0);
            Due.is("no redirect", x.request(0, 6, 0, mode, 0, false), mode == 0 ? 1 : 0);
            Due.is("no redirect: hops", x.hops(0), 1);
            Due.is("five redirects", x.request(0, 1, 0, mode, 0, false), mode == 0 ? 1 : 0);
            Due.is("five redirects: hops", x.hops(1), 6);
            Due.is("five redirects: the last hop", x.hop(1, 5) / 1000, 6);
        }
        for (int mode = 0; mode < 3; mode++) {
            HopRules x = row();
            x.setsCookie(6, 9, 9, -1, 0, 1, 0);
            Due.is("six redirects", x.request(0, 0, 0, mode, 1, false), 4);
            Due.is("six redirects, judged", x.judged(0), 4);
            Due.is("six redirects: hops", x.hops(0), 6);
            Due.is("six redirects: the last hop", x.hop(0, 5) / 1000, 5);
            Due.bounds("the sixth one is not followed", () -> x.hop(0, 6));
            Due.is("the sixth hop used a connection", x.count(0), 6);
            Due.is("the address behind it is not asked", x.cookies(), 0);
        }
    }

    /** The steps 1, 2 and 5 of a hop come ahead of 6: the sixth hop may be refused otherwise. */
    private static void refusesAheadOfTheSixthRedirect() {
        HopRules x = row();
        x.allow(5, -1, false, 0, 0);
        Due.is("the sixth is not let", ask(x, 0, 0), 3);
        HopRules y = row();
        for (int i = 1; i < 5; i++) {
            y.allow(i, -2, false, 1, 0);
        }
        Due.is("the sixth needs a preflight", y.request(0, 0, 2, 1, 0, false), 5);
        Due.is("a preflight each but for the first", y.count(2), 5);
        Due.is("one that was refused by its preflight counts", y.hops(0), 6);
        HopRules z = row();
        z.redirect(4, Told.address(z, "http://a:1/"), 0);
        z.redirect(7, 6, 0);
        Due.is("the sixth is mixed", ask(z, 0, 0), 2);
        Due.is("the sixth is mixed: hops", z.hops(0), 6);
    }

    /**
     * "With 301 (0) and 302 (1) POST becomes GET, with 303 (2) POST and PUT become GET, with 307 (3) and 308 (4) the
     * method stays."
     */
    private static void changesMethods() {
        int[][] due = {{0, 0, 2}, {0, 0, 2}, {0, 0, 0}, {0, 1, 2}, {0, 1, 2}};
        for (int status = 0; status < 5; status++) {
            for (int method = 0; method < 3; method++) {
                HopRules x = scene();
                x.redirect(0, Told.address(x, "https://a/1"), status);
                x.request(0, 0, method, 1, 0, false);
                Due.is("ahead of it", x.hop(0, 0), 100 * method);
                Due.is("status " + status + ", method " + method, x.hop(0, 1), 5000 + 100 * due[status][method]);
            }
        }
    }

    private static String taint(int mode, String... chain) {
        HopRules x = new HopRules();
        int last = -1;
        int first = Told.page(x, "https://a/");
        for (int i = chain.length - 1; i >= 0; i--) {
            int address = Told.address(x, chain[i]);
            x.allow(address, -2, false, 0, 0);
            x.redirect(address, last, 0);
            last = address;
        }
        x.request(first, last, 0, mode, 0, false);
        String taints = "";
        for (int hop = 0; hop < x.hops(0); hop++) {
            taints = taints + x.hop(0, hop) / 10 % 10;
        }
        return taints;
    }

    /**
     * "In the mode 1, if the hop is cross and the address to which it redirects is not of the same origin as that of
     * the hop [...]"
     */
    private static void taintsBehindCrossHops() {
        Due.is("away from home", taint(1, "https://a/1", "https://b/1"), "00");
        Due.is("on, at the same origin", taint(1, "https://b/1", "https://b:443/2"), "00");
        Due.is("on, to another origin", taint(1, "https://b/1", "https://c/1"), "01");
        Due.is("on, to another port", taint(1, "https://b/1", "https://b:444/1"), "01");
        Due.is("on, to a host under it", taint(1, "https://b/1", "https://c.b/1"), "01");
        Due.is("back home", taint(1, "https://b/1", "https://a/1"), "01");
        Due.is("from then on", taint(1, "https://b/1", "https://c/1", "https://c/2", "https://a/1", "https://a/2"),
            "01111");
    }

    /** The same sentence: in the modes 0 and 2 there is no taint. */
    private static void taintsInTheMode1Alone() {
        Due.is("free", taint(0, "https://b/1", "https://c/1", "https://a/1"), "000");
        Due.is("navigates", taint(2, "https://b/1", "https://c/1", "https://a/1"), "000");
    }

    /**
     * "in the modes 1 and 2 it is readable (0); in the mode 0 it is readable if none of its hops was cross, and opaque
     * (1) otherwise."
     */
    private static void endsReadableOrOpaque() {
        HopRules x = scene();
        int near = Told.address(x, "https://a:443/1");
        Due.is("asked, at home", ask(x, 0, near), 0);
        Due.is("navigates, cross", navigate(x, 0, 1), 0);
        Due.is("free, at home", free(x, 0, near), 0);
        x.redirect(near, 0, 0);
        Due.is("free, over home", free(x, 0, near), 0);
        Due.is("free, cross", free(x, 0, 1), 1);
        x.redirect(near, 1, 0);
        Due.is("the last one is cross", free(x, 0, near), 1);
        x.redirect(1, 0, 0);
        Due.is("the one between is cross", free(x, 0, near), 1);
        Due.is("the first one is cross", free(x, 0, 1), 1);
        x.allow(1, -2, false, 0, 0);
        x.allow(0, -3, false, 0, 0);
        Due.is("asked, over a cross one", ask(x, 0, near), 0);
    }
}
