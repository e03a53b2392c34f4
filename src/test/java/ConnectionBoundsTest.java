/**
 * The boundary cases of "Connections" in the promises 13 and 21, a test for each sentence, which is quoted ahead
 * of it.
 */
public final class ConnectionBoundsTest {
    private static final int NO = -1;

    public static void main(String[] args) {
        opensSixConnections();
        opensOneForEachPart();
        usesItFor20Ticks();
        closesItIfItIsOlder();
        closesTheOneUsedTheLongestTimeAgo();
        closesByTheOrderOfUse();
        closesItsOwnAheadOfAnother();
        Due.end();
    }

    /** https: 0 a to 7 h; page 0 at 0. */
    private static HopRules street() {
        HopRules x = new HopRules();
        for (int label = 0; label < 8; label++) {
            x.address(1, x.host(-1, label, false), 0, 0);
        }
        x.page(0, -1, 0);
        return x;
    }

    /** Frees each of these addresses, and answers how many connections were opened by that. */
    private static int opens(HopRules x, int... addresses) {
        int before = x.count(0);
        for (int address : addresses) {
            x.request(0, address, 0, 0, 0, false);
        }
        return x.count(0) - before;
    }

    /** "There are at most 6 connections." */
    private static void opensSixConnections() {
        HopRules x = street();
        for (int address = 0; address < 8; address++) {
            Due.is("opened", opens(x, address), 1);
            Due.is("open", x.count(1), Math.min(address + 1, 6));
        }
    }

    /**
     * "A connection is for a scheme, a host, a port (the usual one for 0), with credentials or without, and a
     * partition."
     */
    private static void opensOneForEachPart() {
        HopRules x = street();
        Due.is("one", opens(x, 0), 1);
        Due.is("the same, by another path", opens(x, Told.address(x, "https://a/9")), 0);
        Due.is("the same, by the usual port", opens(x, Told.address(x, "https://a:443/")), 0);
        Due.is("another port", opens(x, Told.address(x, "https://a:442/")), 1);
        Due.is("another host", opens(x, 1), 1);
        Due.is("all are there", opens(x, 0, 1), 0);
        x.request(0, 0, 0, 0, 1, false);
        Due.is("with credentials", x.count(0), 4);
        int other = x.page(1, -1, 0);
        x.request(other, 0, 0, 0, 0, false);
        Due.is("another partition", x.count(0), 5);
        HopRules y = new HopRules();
        Told.addresses(y, "http://a/", "https://a/", "http://a:80/", "http://a:443/");
        y.page(0, -1, 0);
        Due.is("the usual port of http", opens(y, 0, 2), 1);
        Due.is("another scheme", opens(y, 1), 1);
        Due.is("the port of the other scheme", opens(y, 3), 1);
    }

    /** "A hop or a preflight uses the one that is for it, if it was used no more than 20 ticks ago" */
    private static void usesItFor20Ticks() {
        HopRules x = street();
        Due.is("opened", opens(x, 0), 1);
        x.pass(19);
        Due.is("19 ticks ago", opens(x, 0), 0);
        x.pass(20);
        Due.is("20 ticks ago, by its last use", opens(x, 0), 0);
        x.pass(21);
        Due.is("21 ticks ago", opens(x, 0), 1);
        x.pass(1000);
        Due.is("1000 ticks ago", opens(x, 0), 1);
        HopRules y = street();
        y.request(0, 1, 2, 1, 0, false);
        y.pass(21);
        y.request(0, 1, 2, 1, 0, false);
        Due.is("a preflight, 21 ticks ago", y.count(0), 2);
        y.pass(20);
        y.request(0, 1, 2, 1, 0, false);
        Due.is("a preflight, 20 ticks ago", y.count(0), 2);
    }

    /** "otherwise that is closed, if there is one, and one is opened" */
    private static void closesItIfItIsOlder() {
        HopRules x = street();
        opens(x, 0, 1);
        x.pass(21);
        Due.is("open, 21 ticks ago", x.count(1), 2);
        opens(x, 0);
        Due.is("its own was closed, not the other one", x.count(1), 2);
        opens(x, 2);
        Due.is("there was none", x.count(1), 3);
    }

    /** "if there are 6, the one that was used the longest time ago [...] is closed ahead of that." */
    private static void closesTheOneUsedTheLongestTimeAgo() {
        for (int again = NO; again < 6; again++) {
            HopRules x = street();
            for (int address = 0; address < 6; address++) {
                opens(x, address);
                x.pass(1);
            }
            if (again != NO) {
                opens(x, again);
            }
            x.pass(1);
            opens(x, 6);
            int closed = again == 0 ? 1 : 0;
            for (int address = 5; address > closed; address--) {
                Due.is("used " + again + " again: " + address + " is there", opens(x, address), 0);
            }
            Due.is("used " + again + " again: " + closed + " was closed", opens(x, closed), 1);
        }
    }

    /** "[...] likewise by the order [...]", at one tick */
    private static void closesByTheOrderOfUse() {
        HopRules x = street();
        opens(x, 5, 4, 3, 2, 1, 0, 4, 5);
        Due.is("the seventh", opens(x, 6), 1);
        Due.is("the others are there", opens(x, 2, 1, 0, 4, 5, 6), 0);
        Due.is("the one whose turn it was", opens(x, 3), 1);
        Due.is("the next one", opens(x, 2), 1);
        Due.is("and on", opens(x, 1), 1);
    }

    /** The same sentence: its own one that is too old is closed first, so that there are no 6 any more. */
    private static void closesItsOwnAheadOfAnother() {
        HopRules x = street();
        opens(x, 0, 1, 2, 3, 4, 5);
        x.pass(21);
        Due.is("its own, too old", opens(x, 3), 1);
        Due.is("six are open", x.count(1), 6);
        x.pass(20);
        Due.is("it was used 20 ticks ago", opens(x, 3), 0);
        HopRules y = street();
        opens(y, 0);
        y.pass(1);
        opens(y, 1, 2, 3, 4, 5);
        y.pass(20);
        Due.is("the first is 21 ticks old, the others 20", opens(y, 5, 4, 3, 2, 1), 0);
        Due.is("none but the first was closed", opens(y, 0, 5, 4, 3, 2, 1), 1);
    }
}
