/** Promises 8 to 11: redirect, allow, setsCookie, toggleBlocking. */
public final class AnswersTest {
    public static void main(String[] args) {
        redirects();
        refusesRedirects();
        allows();
        refusesAllowances();
        setsCookies();
        refusesCookieLines();
        togglesBlocking();
        Due.end();
    }

    /** https: 0 a, 1 b, 2 c; http: 3 a; page 0 at 0, policy none. */
    private static HopRules scene() {
        HopRules x = new HopRules();
        for (int host = 0; host < 3; host++) {
            x.host(-1, host, false);
            x.address(1, host, 0, 0);
        }
        x.address(0, 0, 0, 0);
        x.page(0, -1, 0);
        return x;
    }

    private static int navigate(HopRules x, int address, int method) {
        return x.request(0, address, method, 2, 0, false);
    }

    private static void redirects() {
        HopRules x = scene();
        navigate(x, 0, 0);
        Due.is("none at first", x.hops(0), 1);
        x.redirect(0, 1, 0);
        navigate(x, 0, 0);
        Due.is("one", x.hops(1), 2);
        Due.is("to 1", x.hop(1, 1), 1000);
        x.redirect(0, 2, 0);
        navigate(x, 0, 0);
        Due.is("in its place to 2", x.hop(2, 1), 2000);
        x.redirect(0, -1, 0);
        navigate(x, 0, 0);
        Due.is("not any more", x.hops(3), 1);
        Due.is("what was done stays", x.hops(2), 2);
    }

    private static void refusesRedirects() {
        HopRules x = scene();
        x.redirect(0, 1, 3);
        Due.bounds("address 4", () -> x.redirect(4, 0, 0));
        Due.bounds("address -1", () -> x.redirect(-1, 0, 0));
        Due.bounds("to 4", () -> x.redirect(0, 4, 0));
        Due.bounds("to -2", () -> x.redirect(0, -2, 0));
        Due.bounds("to ahead of status", () -> x.redirect(0, -2, 5));
        Due.argument("status 5", () -> x.redirect(0, 2, 5));
        Due.argument("status -1", () -> x.redirect(0, 2, -1));
        Due.argument("status without redirect", () -> x.redirect(0, -1, 5));
        navigate(x, 0, 1);
        Due.is("nothing changed: to", x.hop(0, 1), 1100);
    }

    private static int ask(HopRules x, int address, int credentials) {
        return x.request(0, address, 0, 1, credentials, false);
    }

    private static void allows() {
        HopRules x = scene();
        Due.is("nothing at first", ask(x, 1, 0), 3);
        x.allow(1, -2, false, 0, 0);
        Due.is("all", ask(x, 1, 0), 0);
        Due.is("all, always", ask(x, 1, 2), 3);
        x.allow(1, -2, true, 0, 0);
        Due.is("all with credentials, always", ask(x, 1, 2), 3);
        x.allow(1, 0, false, 0, 0);
        Due.is("its origin", ask(x, 1, 0), 0);
        Due.is("its origin, to the same origin", ask(x, 1, 1), 0);
        Due.is("its origin, always", ask(x, 1, 2), 3);
        x.allow(1, 0, true, 0, 0);
        Due.is("its origin with credentials", ask(x, 1, 2), 0);
        x.allow(1, 2, true, 3, 10);
        Due.is("another origin", ask(x, 1, 0), 3);
        x.allow(1, 3, true, 3, 10);
        Due.is("another scheme", ask(x, 1, 0), 3);
        x.allow(1, x.address(1, 0, 443, 7), false, 0, 0);
        Due.is("the same origin told otherwise", ask(x, 1, 0), 0);
        x.allow(1, x.address(1, 0, 80, 0), false, 0, 0);
        Due.is("another port", ask(x, 1, 0), 3);
        x.allow(1, -3, true, 0, 0);
        Due.is("the taint alone", ask(x, 1, 0), 3);
        x.allow(1, -1, true, 3, 10);
        Due.is("none", ask(x, 1, 0), 3);
    }

    private static void refusesAllowances() {
        HopRules x = scene();
        x.allow(1, 0, false, 1, 0);
        Due.bounds("address 4", () -> x.allow(4, -2, true, 0, 0));
        Due.bounds("address -1", () -> x.allow(-1, -2, true, 0, 0));
        Due.bounds("origins 4", () -> x.allow(1, 4, true, 0, 0));
        Due.bounds("origins -4", () -> x.allow(1, -4, true, 0, 0));
        Due.bounds("origins ahead of age", () -> x.allow(1, -4, true, 4, 1001));
        Due.argument("others 4", () -> x.allow(1, -1, true, 4, 0));
        Due.argument("others -1", () -> x.allow(1, -1, true, -1, 0));
        Due.argument("age 1001", () -> x.allow(1, -1, true, 0, 1001));
        Due.argument("age -1", () -> x.allow(1, -1, true, 0, -1));
        Due.is("nothing changed: origin", ask(x, 1, 0), 0);
        Due.is("nothing changed: credentials", ask(x, 1, 2), 3);
        Due.is("nothing changed: others", x.request(0, 1, 2, 1, 0, false), 0);
        x.allow(1, 0, false, 3, 1000);
        Due.is("the last age", x.request(0, 1, 2, 1, 0, true), 0);
    }

    private static void setsCookies() {
        HopRules x = scene();
        navigate(x, 0, 0);
        Due.is("none at first", Due.cookies(x), "");
        x.setsCookie(0, 1, 999, -1, 0, 1, 0);
        navigate(x, 0, 0);
        Due.is("one", Due.cookies(x), "1999,");
        x.setsCookie(0, 2, 0, -1, 0, 1, 0);
        navigate(x, 0, 0);
        Due.is("another in its place", Due.cookies(x), "1999,2000,");
        x.setsCookie(0, 3, -1, -1, 0, 1, 0);
        navigate(x, 0, 0);
        Due.is("none any more", Due.cookies(x), "1999,2000,");
    }

    private static void refusesCookieLines() {
        HopRules x = scene();
        x.setsCookie(0, 1, 5, -1, 0, 1, 0);
        Due.bounds("address 4", () -> x.setsCookie(4, 2, 6, -1, 0, 1, 0));
        Due.bounds("address -1", () -> x.setsCookie(-1, 2, 6, -1, 0, 1, 0));
        Due.bounds("domain 3", () -> x.setsCookie(0, 2, 6, 3, 0, 1, 0));
        Due.bounds("domain -2", () -> x.setsCookie(0, 2, 6, -2, 0, 1, 0));
        Due.bounds("domain ahead of the rest", () -> x.setsCookie(0, 10, 1000, -2, 10, 64, 1001));
        Due.argument("name 10", () -> x.setsCookie(0, 10, 6, -1, 0, 1, 0));
        Due.argument("name -1", () -> x.setsCookie(0, -1, 6, -1, 0, 1, 0));
        Due.argument("value 1000", () -> x.setsCookie(0, 2, 1000, -1, 0, 1, 0));
        Due.argument("value -2", () -> x.setsCookie(0, 2, -2, -1, 0, 1, 0));
        Due.argument("path 10", () -> x.setsCookie(0, 2, 6, -1, 10, 1, 0));
        Due.argument("path 1111", () -> x.setsCookie(0, 2, 6, -1, 1111, 1, 0));
        Due.argument("path -1", () -> x.setsCookie(0, 2, 6, -1, -1, 1, 0));
        Due.argument("flags 64", () -> x.setsCookie(0, 2, 6, -1, 0, 64, 0));
        Due.argument("flags -1", () -> x.setsCookie(0, 2, 6, -1, 0, -1, 0));
        Due.argument("age 1001", () -> x.setsCookie(0, 2, 6, -1, 0, 1, 1001));
        Due.argument("age -2", () -> x.setsCookie(0, 2, 6, -1, 0, 1, -2));
        Due.argument("name without a cookie", () -> x.setsCookie(0, 10, -1, -1, 0, 1, 0));
        navigate(x, 0, 0);
        Due.is("nothing changed", Due.cookies(x), "1005,");
        x.setsCookie(0, 9, 999, 0, 999, 63, 1000);
        x.setsCookie(0, 9, 999, 0, 999, 15, 1000);
        navigate(x, 0, 0);
        Due.is("the last of all", Due.cookies(x), "1005,50009999,");
    }

    private static void togglesBlocking() {
        HopRules x = scene();
        x.setsCookie(1, 1, 1, -1, 0, 1, 0);
        x.request(0, 1, 0, 0, 2, false);
        Due.is("not blocked at first", x.cookies(), 1);
        Due.is("on", x.toggleBlocking(), true);
        x.request(0, 1, 0, 0, 2, false);
        Due.is("not sent", Due.sent(x, 1, 0), "");
        Due.is("off", x.toggleBlocking(), false);
        x.request(0, 1, 0, 0, 2, false);
        Due.is("sent", Due.sent(x, 2, 0), "1001,");
    }
}
