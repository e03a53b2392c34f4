/** Promises 9, 13 and 21: which requests need a preflight, when it is granted, and how long it is kept. */
public final class PreflightsTest {
    public static void main(String[] args) {
        needsOne();
        grantsOnlyWhatIsAllowed();
        keepsForItsTime();
        keepsForTheSameAlone();
        keepsForThePartition();
        keepsForTheTaint();
        keepsWhatIsAllowed();
        replacesTheKeptOne();
        keepsTheHeader();
        usesAConnection();
        Due.end();
    }

    /** https: 0 a, 1 b, 2 c, 3 a/1; pages: 0 at 0, 1 at 3, 2 at 1, 3 at 0 in page 2. */
    private static HopRules scene() {
        HopRules x = new HopRules();
        for (int host = 0; host < 3; host++) {
            x.host(-1, host, false);
            x.address(1, host, 0, 0);
        }
        x.address(1, 0, 443, 1);
        x.page(0, -1, 0);
        x.page(3, -1, 0);
        x.page(1, -1, 0);
        x.page(0, 2, 0);
        return x;
    }

    private static int put(HopRules x, int page, int address, int credentials) {
        return x.request(page, address, 2, 1, credentials, false);
    }

    private static void needsOne() {
        HopRules x = scene();
        x.allow(1, -2, false, 3, 0);
        x.request(0, 1, 0, 1, 0, false);
        x.request(0, 1, 1, 1, 0, false);
        put(x, 0, 0, 0);
        x.request(0, 3, 0, 1, 0, true);
        Due.is("simple or to the same origin", x.count(2), 0);
        put(x, 0, 1, 0);
        Due.is("PUT", x.count(2), 1);
        x.request(0, 1, 0, 1, 0, true);
        Due.is("GET with a header", x.count(2), 2);
        x.request(0, 1, 1, 1, 0, true);
        Due.is("POST with a header", x.count(2), 3);
        x.request(0, 1, 2, 1, 0, true);
        Due.is("PUT with a header", x.count(2), 4);
    }

    private static void grantsOnlyWhatIsAllowed() {
        for (int others = 0; others < 4; others++) {
            HopRules x = scene();
            x.allow(1, -2, false, others, 0);
            boolean allowsPut = others == 1 || others == 3;
            boolean allowsHeaders = others >= 2;
            Due.is(others + ": PUT", put(x, 0, 1, 0), allowsPut ? 0 : 5);
            Due.is(others + ": header", x.request(0, 1, 0, 1, 0, true), allowsHeaders ? 0 : 5);
            Due.is(others + ": both", x.request(0, 1, 2, 1, 0, true), others == 3 ? 0 : 5);
            Due.is(others + ": count", x.count(2), 3);
        }
        HopRules x = scene();
        x.allow(1, -1, true, 3, 9);
        Due.is("allows none", put(x, 0, 1, 0), 5);
        x.allow(1, 2, true, 3, 9);
        Due.is("allows another", put(x, 0, 1, 0), 5);
        x.allow(1, 0, false, 3, 9);
        Due.is("without credentials", put(x, 0, 1, 2), 5);
        x.allow(1, -2, true, 3, 9);
        Due.is("all, but always", put(x, 0, 1, 2), 5);
        Due.is("nothing was kept", x.count(2), 4);
        x.setsCookie(1, 1, 1, -1, 0, 1, 0);
        x.redirect(1, 0, 0);
        Due.is("refused", put(x, 0, 1, 2), 5);
        Due.is("refused: hops", x.hops(4), 1);
        Due.is("refused: judged", x.judged(4), 5);
        Due.is("refused: chain", x.hop(4, 0), 1200);
        Due.is("refused: no cookie", x.cookies(), 0);
    }

    private static void keepsForItsTime() {
        HopRules x = scene();
        x.allow(1, 0, false, 1, 10);
        put(x, 0, 1, 0);
        put(x, 0, 1, 0);
        Due.is("kept at once", x.count(2), 1);
        x.pass(9);
        put(x, 0, 1, 0);
        Due.is("kept up to its time", x.count(2), 1);
        x.pass(1);
        put(x, 0, 1, 0);
        Due.is("its time has come", x.count(2), 2);
        x.pass(9);
        x.allow(1, -1, false, 0, 0);
        Due.is("the kept one grants, the answer lets not", put(x, 0, 1, 0), 3);
        Due.is("kept anew", x.count(2), 2);
        x.pass(1);
        Due.is("gone", put(x, 0, 1, 0), 5);
        x.allow(1, 0, false, 1, 0);
        put(x, 0, 1, 0);
        put(x, 0, 1, 0);
        Due.is("the age 0 keeps none", x.count(2), 5);
        x.allow(1, 0, false, 1, 1);
        put(x, 0, 1, 0);
        put(x, 0, 1, 0);
        Due.is("the age 1 keeps it", x.count(2), 6);
        x.pass(1);
        put(x, 0, 1, 0);
        Due.is("the age 1 is over", x.count(2), 7);
    }

    private static void keepsForTheSameAlone() {
        HopRules x = scene();
        x.allow(1, 0, true, 1, 10);
        put(x, 0, 1, 0);
        put(x, 0, 1, 1);
        Due.is("not always, to the same origin or none", x.count(2), 1);
        put(x, 0, 1, 2);
        Due.is("always", x.count(2), 2);
        put(x, 0, 1, 2);
        put(x, 0, 1, 1);
        Due.is("both are kept", x.count(2), 2);
        put(x, 1, 1, 0);
        Due.is("page of the same origin", x.count(2), 2);
        x.allow(2, -2, true, 1, 10);
        put(x, 0, 2, 0);
        Due.is("another address", x.count(2), 3);
        int told = x.address(1, 1, 443, 0);
        x.allow(told, 0, true, 1, 10);
        put(x, 0, told, 0);
        Due.is("an address of the same origin is another", x.count(2), 4);
        x.address(1, 0, 8, 0);
        int other = x.page(5, -1, 0);
        put(x, other, 2, 0);
        Due.is("page of another origin on the same site", x.count(2), 5);
        put(x, other, 2, 0);
        put(x, 0, 2, 0);
        Due.is("kept for both", x.count(2), 5);
    }

    private static void keepsForThePartition() {
        HopRules x = scene();
        x.allow(2, 0, false, 1, 10);
        put(x, 0, 2, 0);
        put(x, 3, 2, 0);
        Due.is("another partition", x.count(2), 2);
        put(x, 0, 2, 0);
        put(x, 3, 2, 0);
        Due.is("kept in both", x.count(2), 2);
    }

    private static void keepsForTheTaint() {
        HopRules x = scene();
        x.allow(1, -2, false, 1, 0);
        x.allow(2, -3, false, 1, 10);
        x.redirect(1, 2, 3);
        Due.is("tainted", put(x, 0, 1, 0), 0);
        Due.is("one each", x.count(2), 2);
        x.address(1, 0, 8, 0);
        int other = x.page(4, -1, 0);
        Due.is("tainted, from another origin", put(x, other, 1, 0), 0);
        Due.is("kept for the taint, whatever the page is", x.count(2), 3);
        Due.is("not tainted", put(x, 0, 2, 0), 5);
        Due.is("not kept for the page", x.count(2), 4);
        x.allow(2, -2, false, 1, 10);
        put(x, 0, 2, 0);
        x.pass(5);
        x.allow(2, -2, false, 1, 100);
        put(x, 0, 2, 0);
        Due.is("kept for the page", x.count(2), 5);
        x.pass(5);
        put(x, 0, 1, 0);
        Due.is("the one for the page does not serve the taint", x.count(2), 7);
    }

    private static void keepsWhatIsAllowed() {
        HopRules x = scene();
        x.allow(1, 0, false, 3, 10);
        put(x, 0, 1, 0);
        x.request(0, 1, 1, 1, 0, true);
        x.request(0, 1, 2, 1, 0, true);
        Due.is("all that the answer allowed", x.count(2), 1);
        HopRules y = scene();
        y.allow(1, 0, false, 1, 10);
        put(y, 0, 1, 0);
        Due.is("PUT alone", y.request(0, 1, 0, 1, 0, true), 5);
        Due.is("PUT alone: both", y.request(0, 1, 2, 1, 0, true), 5);
        put(y, 0, 1, 0);
        Due.is("a refused one does not take its place", y.count(2), 3);
        HopRules z = scene();
        z.allow(1, 0, false, 2, 10);
        z.request(0, 1, 0, 1, 0, true);
        Due.is("headers alone", put(z, 0, 1, 0), 5);
        z.request(0, 1, 0, 1, 0, true);
        Due.is("headers alone: kept", z.count(2), 2);
    }

    private static void replacesTheKeptOne() {
        HopRules x = scene();
        x.allow(1, 0, false, 1, 100);
        put(x, 0, 1, 0);
        x.allow(1, 0, false, 2, 5);
        x.request(0, 1, 0, 1, 0, true);
        x.request(0, 1, 0, 1, 0, true);
        Due.is("kept anew", x.count(2), 2);
        Due.is("the one for PUT is gone", put(x, 0, 1, 0), 5);
        x.pass(5);
        x.request(0, 1, 0, 1, 0, true);
        Due.is("with its time", x.count(2), 4);
        HopRules y = scene();
        y.allow(1, 0, false, 1, 100);
        put(y, 0, 1, 0);
        y.allow(1, 0, false, 3, 0);
        y.request(0, 1, 0, 1, 0, true);
        y.request(0, 1, 0, 1, 0, true);
        Due.is("with the age 0 none is kept", y.count(2), 3);
        put(y, 0, 1, 0);
        Due.is("with the age 0 the other stays", y.count(2), 3);
    }

    private static void keepsTheHeader() {
        HopRules x = scene();
        x.redirect(0, 1, 2);
        x.allow(1, -2, false, 2, 0);
        Due.is("PUT that becomes GET keeps its header", x.request(0, 0, 2, 1, 0, true), 0);
        Due.is("PUT that becomes GET keeps its header: count", x.count(2), 1);
        put(x, 0, 0, 0);
        Due.is("PUT that becomes GET is simple", x.count(2), 1);
        x.redirect(0, 1, 0);
        Due.is("PUT that stays", put(x, 0, 0, 0), 5);
    }

    private static void usesAConnection() {
        HopRules x = scene();
        x.allow(1, 0, true, 1, 0);
        put(x, 0, 1, 0);
        Due.is("without credentials, the same", x.count(0), 1);
        put(x, 0, 1, 2);
        Due.is("with credentials, another", x.count(0), 2);
        HopRules y = scene();
        put(y, 0, 1, 2);
        Due.is("refused", y.count(0), 1);
        y.request(0, 1, 0, 1, 0, false);
        Due.is("refused: without credentials", y.count(0), 1);
    }
}
