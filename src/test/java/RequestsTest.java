/** Promises 13, 15, 16 and 18: request, hops, hop, judged. */
public final class RequestsTest {
    public static void main(String[] args) {
        endsReadableOrOpaque();
        tellsOrigins();
        tellsSites();
        refusesForMixing();
        changesForMixing();
        mixesBehindRedirects();
        letsByAnswer();
        countsRedirects();
        changesMethods();
        taints();
        refers();
        refersBehindChanges();
        refusesRequests();
        limitsRequests();
        judgesAnew();
        refusesRecords();
        Due.end();
    }

    /** https: 0 a, 1 b, 2 c; http: 3 a, 4 b, 5 c; page 0 at 0, page 1 at 3, both with the given policy. */
    private static HopRules scene(int policy) {
        HopRules x = new HopRules();
        for (int i = 0; i < 6; i++) {
            x.host(-1, i % 3, false);
            x.address(i < 3 ? 1 : 0, i % 3, 0, 0);
        }
        x.page(0, -1, policy);
        x.page(3, -1, policy);
        return x;
    }

    private static void ends(HopRules x, String what, int got, int due) {
        Due.is(what, got, due);
        int last = -1;
        for (int i = 0; i < 40; i++) {
            int asked = i;
            if (Due.thrownBy(() -> x.hops(asked)).equals("nothing")) {
                last = i;
            }
        }
        Due.is(what + ", judged", x.judged(last), due);
    }

    private static String chain(HopRules x, int request) {
        StringBuilder all = new StringBuilder();
        for (int hop = 0; hop < x.hops(request); hop++) {
            all.append(x.hop(request, hop)).append(',');
        }
        return all.toString();
    }

    private static void endsReadableOrOpaque() {
        HopRules x = scene(0);
        ends(x, "free, same origin", x.request(0, 0, 0, 0, 0, false), 0);
        ends(x, "free, cross", x.request(0, 1, 0, 0, 0, false), 1);
        ends(x, "free, port told", x.request(0, x.address(1, 0, 443, 5), 0, 0, 0, false), 0);
        ends(x, "free, other port", x.request(0, x.address(1, 0, 80, 0), 0, 0, 0, false), 1);
        ends(x, "free, other scheme", x.request(1, 0, 0, 0, 0, false), 1);
        ends(x, "navigates across", x.request(0, 1, 0, 2, 0, false), 0);
        ends(x, "asked, same origin", x.request(0, 0, 2, 1, 2, true), 0);
        x.redirect(1, 0, 0);
        ends(x, "free, cross and back", x.request(0, 1, 0, 0, 0, false), 1);
        x.redirect(0, 1, 0);
        x.redirect(1, -1, 0);
        ends(x, "free, away", x.request(0, 0, 0, 0, 0, false), 1);
        ends(x, "navigates away", x.request(0, 0, 1, 2, 1, false), 0);
    }

    private static void tellsOrigins() {
        int[] ports = {0, 79, 80, 81, 82, 443, 444, 445, 9999};
        int[] pagePorts = {0, 80, 81, 443};
        for (int pair = 0; pair < 16 * pagePorts.length * ports.length; pair++) {
            int schemes = pair % 4;
            int hosts = pair / 4 % 4;
            int pagePort = pagePorts[pair / 16 % pagePorts.length];
            int port = ports[pair / 16 / pagePorts.length];
            HopRules x = new HopRules();
            x.host(-1, 0, false);
            x.host(-1, 1, false);
            int page = x.address(schemes / 2, hosts / 2, pagePort, 1);
            int asked = x.address(schemes % 2, hosts % 2, port, 2);
            x.page(page, -1, 2);
            x.request(0, asked, 0, 2, 0, false);
            int[] usual = {80, 443};
            int realPagePort = pagePort == 0 ? usual[schemes / 2] : pagePort;
            int realPort = port == 0 ? usual[schemes % 2] : port;
            boolean isSame = schemes % 3 == 0 && hosts % 3 == 0 && realPagePort == realPort;
            Due.is(Due.text(x, page) + " and " + Due.text(x, asked), x.hop(0, 0) % 10, isSame ? 2 : 0);
        }
    }

    private static void tellsSites() {
        for (int page = 0; page < 8; page++) {
            for (int asked = 0; asked < 8; asked++) {
                HopRules x = new HopRules();
                for (int i = 0; i < 8; i++) {
                    x.address(i % 2, x.host(-1, i / 2, false), 0, 0);
                }
                x.page(page, -1, 0);
                x.request(0, page, 0, 2, 0, false);
                x.request(0, asked, 0, 2, 0, false);
                Due.is("sites " + page + " and " + asked, x.count(0), page == asked ? 1 : 2);
                x.setsCookie(asked, 1, 1, -1, 0, 8, 0);
                x.request(0, asked, 0, 2, 0, false);
                x.request(0, asked, 0, 2, 0, false);
                Due.is("from afar " + page + " and " + asked, Due.sent(x, 3, 0), page == asked ? "1001," : "");
            }
        }
    }

    private static void refusesForMixing() {
        HopRules x = scene(1);
        ends(x, "asked, mixed", x.request(0, 4, 0, 1, 2, false), 2);
        Due.is("asked, mixed: chain", chain(x, 0), "4001,");
        Due.is("asked, mixed: no connection", x.count(0), 0);
        ends(x, "navigates to http", x.request(0, 4, 0, 2, 2, false), 0);
        ends(x, "http page asks http", x.request(1, 3, 0, 1, 2, false), 0);
        ends(x, "http page frees http", x.request(1, 4, 0, 0, 2, false), 1);
        int lonely = x.address(0, 1, 81, 0);
        ends(x, "free, no https one", x.request(0, lonely, 1, 0, 2, false), 2);
        Due.is("free, no https one: chain", chain(x, 4), "6101,");
    }

    private static void changesForMixing() {
        HopRules x = scene(4);
        ends(x, "free, changed", x.request(0, 4, 1, 0, 0, false), 1);
        Due.is("free, changed: chain", chain(x, 0), "1102,");
        ends(x, "changed to the same origin", x.request(0, 3, 0, 0, 0, false), 0);
        int told = x.address(0, 0, 443, 0);
        ends(x, "the port as it is told", x.request(0, told, 0, 0, 0, false), 2);
        x.address(1, 0, 443, 1);
        ends(x, "another path", x.request(0, told, 0, 0, 0, false), 2);
        int safe = x.address(1, 0, 443, 0);
        ends(x, "told later", x.request(0, told, 0, 0, 0, false), 0);
        Due.is("told later: chain", x.hop(4, 0), 1000 * safe + 2);
        x.redirect(4, 2, 0);
        ends(x, "the answer is that of the changed one", x.request(0, 4, 0, 0, 0, false), 1);
        Due.is("the answer is that of the changed one: hops", x.hops(5), 1);
    }

    private static void mixesBehindRedirects() {
        HopRules x = scene(0);
        x.redirect(0, 4, 0);
        ends(x, "asked", x.request(0, 0, 1, 1, 0, false), 2);
        Due.is("asked: chain", chain(x, 0), "100,4000,");
        ends(x, "free", x.request(0, 0, 0, 0, 0, false), 1);
        Due.is("free: chain", chain(x, 1), "0,1000,");
        ends(x, "navigates", x.request(0, 0, 0, 2, 0, false), 0);
        Due.is("navigates: chain", chain(x, 2), "0,4000,");
    }

    private static void letsByAnswer() {
        HopRules x = scene(0);
        x.setsCookie(1, 1, 1, -1, 0, 1, 0);
        ends(x, "not let", x.request(0, 1, 0, 1, 2, false), 3);
        Due.is("its cookie is set all the same", x.cookies(), 1);
        x.redirect(1, 0, 0);
        ends(x, "not let, no redirect", x.request(0, 1, 0, 1, 0, false), 3);
        Due.is("not let, no redirect: hops", x.hops(1), 1);
        ends(x, "free asks nobody", x.request(0, 1, 0, 0, 0, false), 1);
        x.redirect(1, -1, 0);
        x.allow(1, 3, true, 0, 0);
        ends(x, "the origin of the page counts", x.request(0, 1, 0, 1, 0, false), 3);
        ends(x, "the origin of the other page", x.request(1, 1, 0, 1, 2, false), 0);
    }

    private static void countsRedirects() {
        HopRules x = scene(0);
        x.redirect(0, 0, 3);
        ends(x, "round", x.request(0, 0, 1, 0, 0, false), 4);
        Due.is("round: hops", x.hops(0), 6);
        Due.is("round: last", x.hop(0, 5), 100);
        Due.is("round: a connection once", x.count(0), 1);
        for (int path = 1; path < 7; path++) {
            x.address(1, 0, 0, path);
        }
        for (int i = 6; i < 11; i++) {
            x.redirect(i, i + 1, 0);
        }
        ends(x, "five redirects", x.request(0, 6, 0, 1, 0, false), 0);
        Due.is("five redirects: chain", chain(x, 1), "6000,7000,8000,9000,10000,11000,");
        x.redirect(11, 0, 0);
        ends(x, "six redirects", x.request(0, 6, 0, 2, 0, false), 4);
        Due.is("six redirects: hops", x.hops(2), 6);
    }

    private static void changesMethods() {
        int[][] then = {{0, 0, 2}, {0, 0, 2}, {0, 0, 0}, {0, 1, 2}, {0, 1, 2}};
        for (int status = 0; status < 5; status++) {
            HopRules x = scene(0);
            x.redirect(0, x.address(1, 0, 0, 1), status);
            for (int method = 0; method < 3; method++) {
                x.request(0, 0, method, 1, 0, true);
                String due = 100 * method + "," + (6000 + 100 * then[status][method]) + ",";
                Due.is("status " + status + ", method " + method, chain(x, method), due);
            }
        }
    }

    private static void taints() {
        HopRules x = scene(0);
        for (int address = 0; address < 3; address++) {
            x.allow(address, -2, false, 0, 0);
        }
        x.redirect(0, 1, 0);
        ends(x, "away from the page's origin", x.request(0, 0, 0, 1, 0, false), 0);
        Due.is("away from the page's origin: chain", chain(x, 0), "0,1000,");
        x.redirect(1, 2, 0);
        x.redirect(2, x.address(1, 2, 443, 4), 0);
        x.allow(6, -3, false, 0, 0);
        ends(x, "tainted", x.request(0, 0, 0, 1, 1, false), 0);
        Due.is("tainted: chain", chain(x, 1), "0,1000,2010,6010,");
        x.allow(6, 0, true, 0, 0);
        ends(x, "one origin does not let the taint", x.request(0, 0, 0, 1, 1, false), 3);
        x.allow(6, -3, false, 0, 0);
        ends(x, "cross, but not tainted", x.request(0, 2, 0, 1, 0, false), 3);
        Due.is("cross, but not tainted: chain", chain(x, 3), "2000,6000,");
        x.redirect(2, 0, 0);
        x.redirect(0, -1, 0);
        x.allow(0, -1, true, 3, 0);
        ends(x, "back home, tainted", x.request(0, 2, 0, 1, 0, false), 3);
        Due.is("back home, tainted: chain", chain(x, 4), "2000,10,");
        x.allow(0, -3, false, 0, 0);
        ends(x, "home allows the taint", x.request(0, 2, 0, 1, 0, false), 0);
        Due.is("free is not tainted", x.request(0, 2, 0, 0, 0, false), 1);
        Due.is("free is not tainted: chain", chain(x, 6), "2000,0,");
        Due.is("what navigates is not tainted", x.request(0, 2, 0, 2, 0, false), 0);
        Due.is("what navigates is not tainted: chain", chain(x, 7), "2000,0,");
        x.allow(2, 0, true, 0, 0);
        ends(x, "taint, always, without credentials", x.request(0, 2, 0, 1, 2, false), 3);
        x.allow(0, -3, true, 0, 0);
        ends(x, "taint, always, with credentials", x.request(0, 2, 0, 1, 2, false), 0);
    }

    private static void refers() {
        // For each policy: https page to its own origin, another https, another http; http page to its own, to https.
        String[] due = {"00000", "11111", "20020", "21021", "22222"};
        for (int policy = 0; policy < 5; policy++) {
            HopRules x = scene(policy);
            x.request(0, x.address(1, 0, 443, 12), 0, 2, 0, false);
            x.request(0, 1, 0, 2, 0, false);
            x.request(0, 4, 0, 2, 0, false);
            x.request(1, x.address(0, 0, 80, 0), 0, 2, 0, false);
            x.request(1, 0, 0, 2, 0, false);
            StringBuilder got = new StringBuilder();
            for (int request = 0; request < 5; request++) {
                got.append(x.hop(request, 0) % 10);
            }
            Due.is("policy " + policy, got.toString(), due[policy]);
        }
    }

    private static void refersBehindChanges() {
        HopRules x = scene(3);
        x.request(0, 4, 0, 0, 0, false);
        Due.is("as it was changed", x.hop(0, 0), 1001);
        x.request(0, 4, 0, 1, 0, false);
        Due.is("as it was refused", x.hop(1, 0), 4000);
        x.allow(1, -2, false, 0, 0);
        x.redirect(1, 0, 0);
        x.request(0, 1, 0, 1, 0, false);
        Due.is("tainted, home", chain(x, 2), "1001,12,");
        int inner = x.page(1, 0, 2);
        x.request(inner, 1, 0, 1, 0, false);
        Due.is("of the page, not of its top page", x.hop(3, 0), 1002);
    }

    private static void refusesRequests() {
        HopRules x = scene(0);
        int inner = x.page(0, 0, 0);
        Due.bounds("page 3", () -> x.request(3, 0, 0, 0, 0, false));
        Due.bounds("page -1", () -> x.request(-1, 0, 0, 0, 0, false));
        Due.bounds("address 6", () -> x.request(0, 6, 0, 0, 0, false));
        Due.bounds("address -1", () -> x.request(0, -1, 0, 0, 0, false));
        Due.bounds("address ahead of method", () -> x.request(inner, 6, 3, 2, 3, true));
        Due.argument("method 3", () -> x.request(0, 0, 3, 1, 0, false));
        Due.argument("method -1", () -> x.request(0, 0, -1, 1, 0, false));
        Due.argument("mode 3", () -> x.request(0, 0, 0, 3, 0, false));
        Due.argument("mode -1", () -> x.request(0, 0, 0, -1, 0, false));
        Due.argument("credentials 3", () -> x.request(0, 0, 0, 1, 3, false));
        Due.argument("credentials -1", () -> x.request(0, 0, 0, 1, -1, false));
        Due.argument("credentials 3 to navigate", () -> x.request(0, 0, 0, 2, 3, false));
        Due.argument("free PUT", () -> x.request(0, 0, 2, 0, 0, false));
        Due.argument("free header", () -> x.request(0, 0, 0, 0, 0, true));
        Due.argument("PUT to navigate", () -> x.request(0, 0, 2, 2, 0, false));
        Due.argument("header to navigate", () -> x.request(0, 0, 0, 2, 0, true));
        Due.argument("header ahead of the top page", () -> x.request(inner, 0, 0, 2, 0, true));
        Due.state("inner page navigates", () -> x.request(inner, 0, 0, 2, 0, false));
        Due.bounds("none came of it", () -> x.hops(0));
        Due.is("none used a connection", x.count(0), 0);
    }

    private static void limitsRequests() {
        HopRules x = scene(0);
        for (int i = 0; i < 40; i++) {
            x.request(0, i % 6, 0, 1, 0, false);
        }
        Due.is("40 requests", x.hops(39), 1);
        String before = Due.state(x);
        Due.state("41st request", () -> x.request(0, 0, 0, 1, 0, false));
        Due.bounds("page ahead of the limit", () -> x.request(2, 0, 0, 1, 0, false));
        Due.argument("mode ahead of the limit", () -> x.request(0, 0, 0, 3, 0, false));
        Due.bounds("none more", () -> x.hops(40));
        Due.is("nothing changed", Due.state(x), before);
    }

    private static void judgesAnew() {
        HopRules x = scene(0);
        x.redirect(0, 1, 0);
        x.allow(1, -2, false, 0, 0);
        x.request(0, 0, 0, 1, 0, false);
        x.request(0, 2, 2, 1, 0, false);
        x.request(0, 2, 0, 1, 0, false);
        x.redirect(0, -1, 0);
        x.redirect(1, 2, 0);
        x.allow(1, -1, false, 0, 0);
        x.allow(2, -2, true, 3, 9);
        x.host(2, 0, false);
        x.toggleSuffix(1);
        Due.is("as it was let", x.judged(0), 0);
        Due.is("as it was refused by the preflight", x.judged(1), 5);
        Due.is("as it was refused by the answer", x.judged(2), 3);
    }

    private static void refusesRecords() {
        HopRules x = scene(0);
        Due.bounds("hops of 0", () -> x.hops(0));
        Due.bounds("judged of 0", () -> x.judged(0));
        Due.bounds("hop of 0", () -> x.hop(0, 0));
        x.request(0, 0, 0, 0, 0, false);
        Due.bounds("hops of -1", () -> x.hops(-1));
        Due.bounds("hops of 1", () -> x.hops(1));
        Due.bounds("judged of -1", () -> x.judged(-1));
        Due.bounds("judged of 1", () -> x.judged(1));
        Due.bounds("hop of -1", () -> x.hop(-1, 0));
        Due.bounds("hop of 1", () -> x.hop(1, 0));
        Due.bounds("hop -1", () -> x.hop(0, -1));
        Due.bounds("hop 1", () -> x.hop(0, 1));
        Due.bounds("hop far above", () -> x.hop(0, Integer.MAX_VALUE));
    }
}
