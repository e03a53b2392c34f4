/** Promises 13 and 17: which cookies are sent at a hop, and in which order. */
public final class CookiesSentTest {
    private static final int SECURE = 1;
    private static final int PARTITIONED = 2;
    private static final int LAX = 4;
    private static final int STRICT = 8;

    public static void main(String[] args) {
        sendsByHost();
        sendsByPath();
        sendsInOrder();
        sendsSecureOnes();
        sendsByPartition();
        sendsFromAfar();
        sendsFromAfarByAnyHop();
        sendsFromForeignPages();
        blocksStrangers();
        sendsAheadOfSetting();
        keepsWhatWasSent();
        refusesRecords();
        Due.end();
    }

    /** Hosts: 0 a, 1 a.a, 2 a.a.a, 3 b.a, 4 b. https: 0 to 4; http: 5 to 9 for the same. Page 0 at 0. */
    private static HopRules scene() {
        HopRules x = new HopRules();
        x.host(-1, 0, false);
        x.host(0, 0, false);
        x.host(1, 0, false);
        x.host(0, 1, false);
        x.host(-1, 1, false);
        for (int scheme = 1; scheme >= 0; scheme--) {
            for (int host = 0; host < 5; host++) {
                x.address(scheme, host, 0, 0);
            }
        }
        x.page(0, -1, 0);
        return x;
    }

    private static void put(HopRules x, int address, int name, int domain, int path, int flags) {
        x.setsCookie(address, name, name, domain, path, flags, 0);
        int before = x.cookies();
        x.request(0, address, 0, 2, 0, false);
        Due.is("the cookie " + name + " is there", x.cookies(), before + 1);
        x.setsCookie(address, name, -1, -1, 0, 0, 0);
    }

    /** What is sent first at the address if it is asked with the mode and the method, always with credentials. */
    private static void sends(HopRules x, String what, int address, int mode, int method, String due) {
        x.request(0, address, method, mode, 2, false);
        Due.is(what, Due.sent(x, last(x), 0), due);
    }

    private static int last(HopRules x) {
        int last = -1;
        for (int request = 0; request < 40; request++) {
            int asked = request;
            if (Due.thrownBy(() -> x.hops(asked)).equals("nothing")) {
                last = request;
            }
        }
        return last;
    }

    private static void sendsByHost() {
        HopRules x = scene();
        put(x, 1, 1, -1, 0, SECURE);
        put(x, 1, 2, 1, 0, SECURE);
        put(x, 2, 3, 0, 0, SECURE);
        sends(x, "its host", 1, 2, 0, "1001,2002,3003,");
        sends(x, "a host under it", 2, 2, 0, "2002,3003,");
        sends(x, "a host above it", 0, 2, 0, "3003,");
        sends(x, "a host beside it", 3, 2, 0, "3003,");
        sends(x, "another host", 4, 2, 0, "");
        sends(x, "any port", x.address(1, 1, 99, 0), 2, 0, "1001,2002,3003,");
        x.toggleSuffix(0);
        sends(x, "a domain that is a suffix now", 2, 2, 0, "2002,3003,");
    }

    private static void sendsByPath() {
        HopRules x = scene();
        put(x, 0, 1, -1, 0, SECURE);
        put(x, 0, 2, -1, 1, SECURE);
        put(x, 0, 3, -1, 12, SECURE);
        put(x, 0, 4, -1, 123, SECURE);
        sends(x, "no segments", 0, 2, 0, "1001,");
        sends(x, "/1", x.address(1, 0, 0, 1), 2, 0, "2002,1001,");
        sends(x, "/1/2", x.address(1, 0, 0, 12), 2, 0, "3003,2002,1001,");
        sends(x, "/1/2/3", x.address(1, 0, 0, 123), 2, 0, "4004,3003,2002,1001,");
        sends(x, "/1/3", x.address(1, 0, 0, 13), 2, 0, "2002,1001,");
        sends(x, "/2/1", x.address(1, 0, 0, 21), 2, 0, "1001,");
        sends(x, "/1/2/4", x.address(1, 0, 0, 124), 2, 0, "3003,2002,1001,");
        sends(x, "/3/1/2", x.address(1, 0, 0, 312), 2, 0, "1001,");
    }

    private static void sendsInOrder() {
        HopRules x = scene();
        int deep = x.address(1, 2, 0, 12);
        put(x, deep, 1, -1, 0, SECURE);
        put(x, deep, 2, 1, 1, SECURE);
        put(x, deep, 3, 0, 0, SECURE);
        put(x, deep, 4, -1, 1, SECURE);
        sends(x, "more segments, then made first", deep, 2, 0, "2002,4004,1001,3003,");
        x.setsCookie(deep, 1, 7, -1, 0, SECURE, 0);
        x.request(0, deep, 0, 2, 0, false);
        sends(x, "replaced keeps its place", deep, 2, 0, "2002,4004,1007,3003,");
        for (int digit = 1; digit < 10; digit++) {
            HopRules y = scene();
            for (int path = digit; path < 1000; path = 10 * path + digit) {
                put(y, 0, path % 7, -1, path, SECURE);
            }
            int three = 111 * digit % 7;
            int two = 11 * digit % 7;
            int one = digit % 7;
            String due = 1001 * three + "," + 1001 * two + "," + 1001 * one + ",";
            sends(y, "segments " + digit, y.address(1, 0, 0, 111 * digit), 2, 0, due);
        }
    }

    private static void sendsSecureOnes() {
        HopRules x = scene();
        put(x, 0, 1, -1, 0, SECURE | LAX);
        put(x, 0, 2, -1, 0, LAX);
        sends(x, "https", 0, 2, 0, "1001,2002,");
        sends(x, "http", 5, 2, 0, "2002,");
    }

    private static void sendsByPartition() {
        HopRules x = scene();
        put(x, 4, 1, -1, 0, SECURE | PARTITIONED);
        put(x, 4, 2, -1, 0, SECURE);
        sends(x, "its own partition", 4, 2, 0, "1001,2002,");
        sends(x, "the partition of the page", 4, 0, 0, "2002,");
        int own = x.page(4, -1, 0);
        x.request(own, 4, 0, 1, 2, false);
        Due.is("a page in its partition", Due.sent(x, last(x), 0), "1001,2002,");
        int inner = x.page(4, 0, 0);
        x.request(inner, 4, 0, 1, 2, false);
        Due.is("the top page counts", Due.sent(x, last(x), 0), "2002,");
        int plain = x.page(9, -1, 0);
        x.request(plain, 4, 0, 0, 2, false);
        Due.is("the scheme counts", Due.sent(x, last(x), 0), "2002,");
        x.host(4, 0, false);
        x.toggleSuffix(4);
        sends(x, "the site stays the same", 4, 2, 0, "1001,2002,");
    }

    private static void sendsFromAfar() {
        HopRules x = scene();
        put(x, 4, 1, -1, 0, SECURE);
        put(x, 4, 2, -1, 0, LAX);
        put(x, 4, 3, -1, 0, STRICT);
        put(x, 4, 4, -1, 0, LAX | STRICT);
        sends(x, "free", 4, 0, 0, "1001,");
        sends(x, "asked", 4, 1, 0, "1001,");
        sends(x, "navigates with GET", 4, 2, 0, "1001,2002,");
        sends(x, "navigates with POST", 4, 2, 1, "1001,");
        int own = x.page(4, -1, 0);
        x.request(own, 4, 1, 1, 2, false);
        Due.is("not from afar", Due.sent(x, last(x), 0), "1001,2002,3003,4004,");
        x.request(own, 4, 1, 2, 2, false);
        Due.is("not from afar, navigates", Due.sent(x, last(x), 0), "1001,2002,3003,4004,");
        put(x, 0, 5, -1, 0, STRICT);
        x.redirect(4, 0, 0);
        x.request(own, 4, 1, 2, 2, false);
        Due.is("the next hop is from afar", Due.sent(x, last(x), 1), "");
        x.setsCookie(0, 5, 5, -1, 0, LAX, 0);
        sends(x, "lax now", 0, 2, 0, "5005,");
        x.request(own, 4, 1, 2, 2, false);
        Due.is("POST that becomes GET", Due.sent(x, last(x), 1), "5005,");
        x.redirect(4, 0, 3);
        x.request(own, 4, 1, 2, 2, false);
        Due.is("POST that stays", Due.sent(x, last(x), 1), "");
    }

    private static void sendsFromAfarByAnyHop() {
        HopRules x = scene();
        put(x, 0, 1, -1, 0, STRICT);
        put(x, 3, 2, -1, 0, STRICT);
        x.redirect(3, 0, 0);
        x.request(0, 3, 0, 0, 2, false);
        Due.is("over the same site", Due.sent(x, last(x), 0) + Due.sent(x, last(x), 1), "2002,1001,");
        x.redirect(4, 0, 0);
        x.request(0, 4, 0, 0, 2, false);
        Due.is("over another site", Due.sent(x, last(x), 1), "");
        x.request(0, 4, 0, 2, 2, false);
        Due.is("over another site, navigates", Due.sent(x, last(x), 1), "");
        x.redirect(4, -1, 0);
        x.redirect(0, 4, 0);
        x.request(0, 0, 0, 0, 2, false);
        Due.is("to another site afterwards", Due.sent(x, last(x), 0), "1001,");
        x.toggleSuffix(0);
        x.request(0, 3, 0, 0, 2, false);
        Due.is("another site now", Due.sent(x, last(x), 0) + Due.sent(x, last(x), 1), "");
        HopRules y = scene();
        put(y, 0, 1, -1, 0, STRICT);
        y.redirect(5, 0, 0);
        y.request(0, 5, 0, 2, 2, false);
        Due.is("over another scheme", Due.sent(y, last(y), 1), "");
    }

    private static void sendsFromForeignPages() {
        HopRules x = scene();
        put(x, 0, 1, -1, 0, SECURE);
        put(x, 0, 2, -1, 0, LAX);
        int foreign = x.page(0, x.page(4, -1, 0), 0);
        x.request(foreign, 0, 0, 0, 2, false);
        Due.is("foreign", Due.sent(x, last(x), 0), "1001,");
        int near = x.page(0, x.page(3, -1, 0), 0);
        x.request(near, 0, 0, 0, 2, false);
        Due.is("not foreign", Due.sent(x, last(x), 0), "1001,2002,");
    }

    private static void blocksStrangers() {
        HopRules x = scene();
        put(x, 4, 1, -1, 0, SECURE);
        x.setsCookie(4, 2, 2, -1, 0, SECURE | PARTITIONED, 0);
        x.request(0, 4, 0, 0, 2, false);
        x.setsCookie(4, 2, -1, -1, 0, 0, 0);
        put(x, 3, 3, -1, 0, SECURE);
        sends(x, "not blocked", 4, 0, 0, "1001,2002,");
        x.toggleBlocking();
        sends(x, "blocked", 4, 0, 0, "2002,");
        sends(x, "navigates", 4, 2, 0, "1001,");
        sends(x, "not from afar", 3, 0, 0, "3003,");
        x.toggleBlocking();
        sends(x, "not blocked any more", 4, 0, 0, "1001,2002,");
    }

    private static void sendsAheadOfSetting() {
        HopRules x = scene();
        x.setsCookie(0, 1, 1, -1, 0, SECURE, 0);
        x.redirect(0, 0, 0);
        x.request(0, 0, 0, 2, 0, false);
        Due.is("not at the hop that sets it", Due.sent(x, 0, 0), "");
        Due.is("at the next one", Due.sent(x, 0, 1), "1001,");
        HopRules y = scene();
        put(y, 0, 1, -1, 0, SECURE);
        sends(y, "sent always", 0, 0, 0, "1001,");
        y.request(0, 0, 0, 0, 0, false);
        Due.is("not without credentials", Due.sent(y, last(y), 0), "");
        y.request(0, 0, 0, 0, 1, false);
        Due.is("to the same origin", Due.sent(y, last(y), 0), "1001,");
        put(y, 3, 2, -1, 0, SECURE);
        y.request(0, 3, 0, 0, 1, false);
        Due.is("to the same origin, and cross", Due.sent(y, last(y), 0), "");
    }

    private static void keepsWhatWasSent() {
        HopRules x = scene();
        put(x, 0, 1, -1, 0, SECURE);
        sends(x, "sent", 0, 2, 0, "1001,");
        x.setsCookie(0, 1, 9, -1, 0, SECURE, 1);
        x.request(0, 0, 0, 2, 0, false);
        x.pass(1);
        Due.is("gone", x.cookies(), 0);
        Due.is("what was sent stays", Due.sent(x, 1, 0), "1001,");
        Due.is("and so later", Due.sent(x, 2, 0), "1001,");
    }

    private static void refusesRecords() {
        HopRules x = scene();
        Due.bounds("no request", () -> x.sent(0, 0, 0));
        put(x, 0, 1, -1, 0, SECURE);
        x.request(0, 0, 0, 2, 0, false);
        Due.bounds("request 2", () -> x.sent(2, 0, 0));
        Due.bounds("request -1", () -> x.sent(-1, 0, 0));
        Due.bounds("hop 1", () -> x.sent(1, 1, 0));
        Due.bounds("hop -1", () -> x.sent(1, -1, 0));
        Due.bounds("place -1", () -> x.sent(1, 0, -1));
        Due.is("place 0", x.sent(1, 0, 0), 1001);
        Due.is("place 1", x.sent(1, 0, 1), -1);
        Due.is("place 10", x.sent(1, 0, 10), -1);
        Due.is("place far above", x.sent(1, 0, Integer.MAX_VALUE), -1);
    }
}
