/** Promises 13 and 21: how connections are kept, by host and partition, and what is counted. */
public final class ConnectionsTest {
    public static void main(String[] args) {
        countsNothingElse();
        usesTheOneForIt();
        partitions();
        splitsByCredentials();
        opensAnewWhenIdle();
        closesTheOldest();
        closesByUse();
        closesIdleOnesFirst();
        Due.end();
    }

    /** https: 0 to 7 for the hosts a to h; http: 8 a; page 0 at 0. */
    private static HopRules scene() {
        HopRules x = new HopRules();
        for (int host = 0; host < 8; host++) {
            x.host(-1, host, false);
            x.address(1, host, 0, 0);
        }
        x.address(0, 0, 0, 0);
        x.page(0, -1, 0);
        return x;
    }

    private static void visit(HopRules x, int address) {
        x.request(0, address, 0, 0, 0, false);
    }

    private static void counts(HopRules x, String what, int opened, int open) {
        Due.is(what + ": opened", x.count(0), opened);
        Due.is(what + ": open", x.count(1), open);
    }

    private static void countsNothingElse() {
        HopRules x = scene();
        Due.argument("count -1", () -> x.count(-1));
        Due.argument("count 3", () -> x.count(3));
        counts(x, "none", 0, 0);
        Due.is("no preflights", x.count(2), 0);
    }

    private static void usesTheOneForIt() {
        HopRules x = scene();
        visit(x, 0);
        visit(x, 0);
        counts(x, "the same", 1, 1);
        visit(x, x.address(1, 0, 443, 5));
        counts(x, "the usual port told, and another path", 1, 1);
        visit(x, x.address(1, 0, 80, 0));
        counts(x, "another port", 2, 2);
        visit(x, 1);
        counts(x, "another host", 3, 3);
        int plain = x.page(8, -1, 0);
        x.request(plain, 8, 0, 0, 0, false);
        counts(x, "another scheme", 4, 4);
        x.redirect(1, 2, 0);
        visit(x, 1);
        counts(x, "each hop one", 5, 5);
    }

    private static void partitions() {
        HopRules x = scene();
        visit(x, 2);
        int other = x.page(1, -1, 0);
        x.request(other, 2, 0, 0, 0, false);
        counts(x, "another top page", 2, 2);
        int inner = x.page(1, 0, 0);
        x.request(inner, 2, 0, 0, 0, false);
        counts(x, "in the first page", 2, 2);
        int near = x.page(x.address(1, x.host(0, 0, false), 0, 0), -1, 0);
        x.request(near, 2, 0, 0, 0, false);
        counts(x, "a page of the same site", 2, 2);
        x.toggleSuffix(0);
        x.request(near, 2, 0, 0, 0, false);
        counts(x, "not of the same site any more", 3, 3);
        x.request(0, 2, 0, 2, 0, false);
        counts(x, "what navigates is in its own", 4, 4);
        x.request(other, 2, 0, 2, 0, false);
        counts(x, "what navigates is in its own, whatever the page is", 4, 4);
        int plain = x.page(8, -1, 0);
        x.request(plain, 2, 0, 0, 0, false);
        counts(x, "a page of another scheme", 5, 5);
    }

    private static void splitsByCredentials() {
        HopRules x = scene();
        x.request(0, 0, 0, 0, 0, false);
        x.request(0, 0, 0, 0, 1, false);
        counts(x, "none, and to the same origin", 2, 2);
        x.request(0, 0, 0, 0, 2, false);
        counts(x, "always", 2, 2);
        x.request(0, 1, 0, 0, 1, false);
        x.request(0, 1, 0, 0, 0, false);
        counts(x, "to the same origin is none, if it is cross", 3, 3);
        x.request(0, 1, 0, 0, 2, false);
        counts(x, "always, cross", 4, 4);
        x.request(0, 0, 0, 2, 0, false);
        counts(x, "what navigates is with credentials", 4, 4);
        x.allow(1, -2, false, 0, 0);
        x.allow(0, -3, false, 0, 0);
        x.redirect(1, 0, 0);
        int told = x.address(1, 0, 0, 1);
        x.redirect(told, 1, 0);
        x.request(0, 1, 0, 1, 1, false);
        counts(x, "tainted at home is cross", 4, 4);
    }

    private static void opensAnewWhenIdle() {
        HopRules x = scene();
        visit(x, 0);
        x.pass(20);
        visit(x, 0);
        counts(x, "20 ticks ago", 1, 1);
        x.pass(20);
        visit(x, 0);
        counts(x, "20 ticks ago, by its last use", 1, 1);
        x.pass(21);
        counts(x, "idle ones are open", 1, 1);
        visit(x, 0);
        counts(x, "21 ticks ago", 2, 1);
        x.pass(1000);
        visit(x, 1);
        counts(x, "an idle one for another stays", 3, 2);
    }

    private static void closesTheOldest() {
        HopRules x = scene();
        for (int host = 0; host < 6; host++) {
            visit(x, host);
        }
        counts(x, "6", 6, 6);
        visit(x, 6);
        counts(x, "7", 7, 6);
        visit(x, 1);
        counts(x, "the second is there", 7, 6);
        visit(x, 0);
        counts(x, "the first was closed", 8, 6);
        visit(x, 2);
        counts(x, "and now the third", 9, 6);
    }

    private static void closesByUse() {
        HopRules x = scene();
        for (int host = 0; host < 6; host++) {
            visit(x, host);
        }
        visit(x, 0);
        visit(x, 6);
        visit(x, 0);
        counts(x, "the one that was used again stays", 7, 6);
        visit(x, 1);
        counts(x, "the one behind it was closed", 8, 6);
    }

    private static void closesIdleOnesFirst() {
        HopRules x = scene();
        for (int host = 0; host < 6; host++) {
            visit(x, host);
        }
        x.pass(10);
        visit(x, 0);
        x.pass(11);
        visit(x, 5);
        counts(x, "its own idle one makes room", 7, 6);
        visit(x, 0);
        counts(x, "the first was not idle", 7, 6);
        visit(x, 6);
        visit(x, 2);
        visit(x, 0);
        counts(x, "the second was the oldest", 9, 6);
    }
}
