/** Promises 10, 13, 19 and 20: which cookies an answer sets, and which are refused. */
public final class CookiesSetTest {
    private static final int SECURE = 1;
    private static final int PARTITIONED = 2;
    private static final int LAX = 4;
    private static final int STRICT = 8;
    private static final int SECURE_PREFIX = 16;
    private static final int HOST_PREFIX = 32;

    public static void main(String[] args) {
        needsCredentials();
        setsForHostOrDomain();
        setsForSuffixes();
        refusesByFlags();
        refusesPrefixes();
        refusesFromAfar();
        refusesStrangers();
        refusesUnderSecureOnes();
        refusesUnderSecureOnesOfThePartition();
        replaces();
        keepsItsPlace();
        goesInTime();
        setsBehindRefusals();
        refusesRecords();
        Due.end();
    }

    /** Hosts: 0 a, 1 a.a, 2 a.a.a, 3 b.a, 4 b. https: 0 to 4; http: 5 to 9 for the same. Page 0 at 0, page 1 at 5. */
    private static HopRules scene() {
        HopRules x = new HopRules();
        x.host(-1, 0, false);
        x.host(0, 0, false);
        x.host(1, 0, false);
        x.host(0, 1, false);
        x.host(-1, 1, false);
        for (int scheme = 1; scheme >= 0; scheme--) {
            for (int host = 0; host < 5; host++) {
                x.address(scheme, host, 0, 0);
            }
        }
        x.page(0, -1, 0);
        x.page(5, -1, 0);
        return x;
    }

    private static int navigate(HopRules x, int address) {
        return x.request(0, address, 0, 2, 0, false);
    }

    /** Whether the cookie of the line is there after the address was asked by the page with credentials. */
    private static void sets(HopRules x, String what, boolean navigates, int address, String due) {
        x.request(address < 5 || navigates ? 0 : 1, address, 0, navigates ? 2 : 0, 2, false);
        Due.is(what, Due.cookies(x), due);
    }

    private static void needsCredentials() {
        HopRules x = scene();
        x.setsCookie(0, 1, 1, -1, 0, SECURE, 0);
        x.setsCookie(3, 2, 2, -1, 0, SECURE, 0);
        x.request(0, 0, 0, 0, 0, false);
        x.request(0, 3, 0, 0, 0, false);
        x.request(0, 3, 0, 0, 1, false);
        Due.is("none are used", Due.cookies(x), "");
        x.request(0, 0, 0, 0, 1, false);
        Due.is("to the same origin", Due.cookies(x), "1001,");
        x.request(0, 3, 0, 0, 2, false);
        Due.is("always", Due.cookies(x), "1001,302002,");
    }

    private static void setsForHostOrDomain() {
        HopRules x = scene();
        x.setsCookie(2, 1, 1, -1, 0, SECURE, 0);
        sets(x, "no domain", false, 2, "201001,");
        x.setsCookie(2, 2, 1, 2, 0, SECURE, 0);
        sets(x, "its own host", false, 2, "201001,202001,");
        x.setsCookie(2, 3, 1, 0, 0, SECURE, 0);
        sets(x, "one above", false, 2, "201001,202001,3001,");
        x.setsCookie(1, 4, 1, 2, 0, SECURE, 0);
        sets(x, "one below", false, 1, "201001,202001,3001,");
        x.setsCookie(1, 4, 1, 3, 0, SECURE, 0);
        sets(x, "one beside", false, 1, "201001,202001,3001,");
        x.setsCookie(1, 4, 1, 4, 0, SECURE, 0);
        sets(x, "another", false, 1, "201001,202001,3001,");
    }

    private static void setsForSuffixes() {
        HopRules x = scene();
        x.toggleSuffix(1);
        x.setsCookie(2, 1, 1, 1, 0, SECURE, 0);
        sets(x, "a suffix above", true, 2, "");
        x.setsCookie(1, 1, 1, 1, 0, SECURE, 0);
        sets(x, "a suffix itself", true, 1, "101001,");
        navigate(x, 2);
        Due.is("a suffix itself is for the host alone", Due.sent(x, 2, 0), "");
        x.setsCookie(2, 2, 1, 0, 0, SECURE, 0);
        sets(x, "one above a suffix", true, 2, "101001,2001,");
        x.toggleSuffix(2);
        x.setsCookie(2, 3, 1, 1, 0, SECURE, 0);
        sets(x, "a suffix above a suffix", true, 2, "101001,2001,");
    }

    private static void refusesByFlags() {
        String https = "";
        String http = "";
        for (int flags = 0; flags < 64; flags++) {
            HopRules x = scene();
            x.setsCookie(0, 1, 1, -1, 0, flags, 0);
            x.setsCookie(5, 1, 1, -1, 0, flags, 0);
            navigate(x, 5);
            http = http + x.cookies();
            navigate(x, 0);
            https = https + x.cookies();
        }
        StringBuilder dueOfHttps = new StringBuilder();
        StringBuilder dueOfHttp = new StringBuilder();
        for (int flags = 0; flags < 64; flags++) {
            boolean isPlain = (flags & (LAX | STRICT)) != 0 && (flags & ~(LAX | STRICT)) == 0;
            dueOfHttp.append(isPlain ? 1 : 0);
            dueOfHttps.append((flags & SECURE) != 0 || isPlain ? 1 : 0);
        }
        Due.is("flags, http", http, dueOfHttp.toString());
        Due.is("flags, https", https, dueOfHttps.toString());
    }

    private static void refusesPrefixes() {
        HopRules x = scene();
        x.setsCookie(0, 1, 1, 0, 0, SECURE | HOST_PREFIX, 0);
        sets(x, "of hosts, domain told", false, 0, "");
        x.setsCookie(0, 1, 1, -1, 1, SECURE | HOST_PREFIX, 0);
        sets(x, "of hosts, path told", false, 0, "");
        x.toggleSuffix(0);
        x.setsCookie(0, 1, 1, 0, 0, SECURE | HOST_PREFIX, 0);
        sets(x, "of hosts, suffix told", false, 0, "");
        x.toggleSuffix(0);
        x.setsCookie(0, 1, 1, -1, 0, SECURE | HOST_PREFIX, 0);
        sets(x, "of hosts", false, 0, "1001,");
        x.setsCookie(0, 2, 1, 0, 1, SECURE | SECURE_PREFIX, 0);
        sets(x, "of secure ones", false, 0, "1001,2001,");
        x.setsCookie(0, 3, 1, 0, 0, SECURE | SECURE_PREFIX | HOST_PREFIX, 0);
        sets(x, "both, domain told", false, 0, "1001,2001,");
        x.setsCookie(0, 3, 1, -1, 0, LAX | HOST_PREFIX, 0);
        sets(x, "of hosts, not secure", false, 0, "1001,2001,");
        x.setsCookie(0, 3, 1, -1, 0, LAX | SECURE_PREFIX, 0);
        sets(x, "of secure ones, not secure", false, 0, "1001,2001,");
    }

    private static void refusesFromAfar() {
        HopRules x = scene();
        x.setsCookie(4, 1, 1, -1, 0, SECURE | LAX, 0);
        sets(x, "lax, from afar", false, 4, "");
        x.setsCookie(4, 2, 1, -1, 0, SECURE | STRICT, 0);
        sets(x, "strict, from afar", false, 4, "");
        sets(x, "strict, from afar, navigates", true, 4, "402001,");
        x.setsCookie(4, 1, 1, -1, 0, LAX, 0);
        sets(x, "lax, from afar, navigates", true, 4, "402001,401001,");
        x.setsCookie(4, 3, 1, -1, 0, SECURE, 0);
        sets(x, "neither, from afar", false, 4, "402001,401001,403001,");
        x.setsCookie(3, 1, 1, -1, 0, LAX, 0);
        sets(x, "lax, same site", false, 3, "402001,401001,403001,301001,");
        x.setsCookie(4, 3, -1, -1, 0, SECURE, 0);
        x.redirect(4, 0, 0);
        x.setsCookie(0, 5, 1, -1, 0, LAX, 0);
        sets(x, "lax, back from afar", false, 4, "402001,401001,403001,301001,");
        sets(x, "lax, back from afar, navigates", true, 4, "402001,401001,403001,301001,5001,");
        int foreign = x.page(0, x.page(4, -1, 0), 0);
        x.setsCookie(0, 6, 1, -1, 0, LAX, 0);
        x.request(foreign, 0, 0, 0, 2, false);
        Due.is("lax, of a foreign page", x.cookies(), 5);
        x.setsCookie(5, 6, 1, -1, 0, LAX, 0);
        x.request(1, 0, 0, 0, 2, false);
        Due.is("lax, from another scheme", x.cookies(), 5);
    }

    private static void refusesStrangers() {
        HopRules x = scene();
        x.toggleBlocking();
        x.setsCookie(4, 1, 1, -1, 0, SECURE, 0);
        sets(x, "a stranger", false, 4, "");
        x.setsCookie(4, 2, 1, -1, 0, SECURE | PARTITIONED, 0);
        sets(x, "a partitioned one", false, 4, "50402001,");
        x.setsCookie(3, 1, 1, -1, 0, SECURE, 0);
        sets(x, "none from afar", false, 3, "50402001,301001,");
        x.setsCookie(4, 3, 1, -1, 0, SECURE, 0);
        sets(x, "one who navigates", true, 4, "50402001,301001,403001,");
        x.setsCookie(4, 4, 1, -1, 0, SECURE, 0);
        x.toggleBlocking();
        sets(x, "a stranger, not blocked", false, 4, "50402001,301001,403001,404001,");
    }

    /** A secure cookie on https, then a lax one on http, each by navigating; and whether the second is refused. */
    private static void under(String what, int[] secure, int[] lax, boolean isRefused) {
        HopRules x = scene();
        x.setsCookie(secure[0], secure[1], 1, secure[2], secure[3], SECURE, 0);
        navigate(x, secure[0]);
        Due.is(what + ": the secure one", x.cookies(), 1);
        x.setsCookie(lax[0], lax[1], 2, lax[2], lax[3], LAX, 0);
        navigate(x, lax[0]);
        // If both are for the same the one that is not refused replaces the other.
        Due.is(what, Due.cookies(x).contains("2,"), !isRefused);
    }

    private static void refusesUnderSecureOnes() {
        under("the same", new int[] {1, 5, -1, 0}, new int[] {6, 5, -1, 0}, true);
        under("another name", new int[] {1, 5, -1, 0}, new int[] {6, 6, -1, 0}, false);
        under("a host below", new int[] {1, 5, -1, 0}, new int[] {7, 5, -1, 0}, true);
        under("a host above", new int[] {1, 5, -1, 0}, new int[] {5, 5, -1, 0}, true);
        under("a domain above", new int[] {3, 5, -1, 0}, new int[] {6, 5, 0, 0}, true);
        under("a host beside", new int[] {3, 5, -1, 0}, new int[] {6, 5, -1, 0}, false);
        under("another host", new int[] {4, 5, -1, 0}, new int[] {6, 5, -1, 0}, false);
        under("a path below", new int[] {1, 5, -1, 1}, new int[] {6, 5, -1, 12}, true);
        under("the same path", new int[] {1, 5, -1, 12}, new int[] {6, 5, -1, 12}, true);
        under("a path above", new int[] {1, 5, -1, 12}, new int[] {6, 5, -1, 1}, false);
        under("a path beside", new int[] {1, 5, -1, 1}, new int[] {6, 5, -1, 21}, false);
        under("on https", new int[] {1, 5, -1, 0}, new int[] {1, 5, -1, 0}, false);
        HopRules x = scene();
        x.setsCookie(1, 5, 1, -1, 0, LAX, 0);
        navigate(x, 1);
        x.setsCookie(7, 5, 2, -1, 0, LAX, 0);
        navigate(x, 7);
        Due.is("none is secure", Due.cookies(x), "105001,205002,");
        x.setsCookie(1, 6, 1, -1, 0, SECURE, 5);
        navigate(x, 1);
        x.setsCookie(6, 6, -1, -1, 0, LAX, 0);
        x.setsCookie(6, 6, 2, -1, 0, LAX, -1);
        navigate(x, 6);
        Due.is("the age -1 is refused, too", Due.cookies(x), "105001,205002,106001,");
        x.pass(5);
        x.setsCookie(6, 6, 2, -1, 0, LAX, 0);
        navigate(x, 6);
        Due.is("the secure one is gone", Due.cookies(x), "105001,205002,106002,");
    }

    private static void refusesUnderSecureOnesOfThePartition() {
        HopRules x = scene();
        x.setsCookie(0, 5, 1, -1, 0, SECURE | PARTITIONED, 0);
        navigate(x, 0);
        Due.is("in its own partition", Due.cookies(x), "50005001,");
        x.setsCookie(5, 5, 2, -1, 0, LAX, 0);
        navigate(x, 5);
        Due.is("another partition, by the scheme", Due.cookies(x), "50005001,5002,");
        HopRules y = scene();
        y.setsCookie(0, 5, 1, -1, 0, SECURE | PARTITIONED, 0);
        y.request(1, 0, 0, 0, 2, false);
        Due.is("in the partition of the http page", Due.cookies(y), "50005001,");
        y.setsCookie(5, 5, 2, -1, 0, LAX, 0);
        navigate(y, 5);
        Due.is("the same partition", Due.cookies(y), "50005001,");
    }

    private static void replaces() {
        HopRules x = scene();
        x.setsCookie(1, 1, 1, -1, 0, SECURE, 0);
        navigate(x, 1);
        x.setsCookie(1, 1, 2, -1, 0, SECURE, 0);
        sets(x, "the same", true, 1, "101002,");
        x.setsCookie(1, 1, 3, 1, 0, LAX, 0);
        sets(x, "for hosts under it", true, 1, "101003,");
        navigate(x, 2);
        Due.is("it is for hosts under it now", Due.sent(x, 3, 0), "1003,");
        x.setsCookie(1, 1, 4, -1, 1, SECURE, 0);
        sets(x, "another path", true, 1, "101003,101004,");
        x.setsCookie(1, 1, 5, 0, 0, SECURE, 0);
        sets(x, "another host", true, 1, "101003,101004,1005,");
        x.setsCookie(1, 1, 6, -1, 0, SECURE | PARTITIONED, 0);
        sets(x, "in a partition", false, 1, "101003,101004,1005,50101006,");
        int other = x.page(4, -1, 0);
        x.setsCookie(1, 1, 7, -1, 0, SECURE | PARTITIONED, 0);
        x.request(other, 1, 0, 0, 2, false);
        Due.is("in another partition", Due.cookies(x), "101003,101004,1005,50101006,50101007,");
        x.setsCookie(1, 1, 8, -1, 0, SECURE | PARTITIONED, 0);
        sets(x, "in the first partition", false, 1, "101003,101004,1005,50101008,50101007,");
        x.setsCookie(1, 2, 9, -1, 0, SECURE, 0);
        sets(x, "another name", false, 1, "101003,101004,1005,50101008,50101007,102009,");
    }

    private static void keepsItsPlace() {
        HopRules x = scene();
        for (int name = 0; name < 3; name++) {
            x.setsCookie(0, name, 1, -1, 0, SECURE, 0);
            navigate(x, 0);
        }
        x.setsCookie(0, 1, 2, -1, 0, SECURE, 0);
        sets(x, "replaced", false, 0, "1,1002,2001,");
        x.setsCookie(0, 0, 3, -1, 0, SECURE, -1);
        sets(x, "gone", false, 0, "1002,2001,");
        sets(x, "gone already", false, 0, "1002,2001,");
        x.setsCookie(0, 0, 4, -1, 0, SECURE, 0);
        sets(x, "made anew", false, 0, "1002,2001,4,");
    }

    private static void goesInTime() {
        HopRules x = scene();
        x.setsCookie(0, 1, 1, -1, 0, SECURE, 1);
        navigate(x, 0);
        x.setsCookie(0, 2, 1, -1, 0, SECURE, 10);
        navigate(x, 0);
        x.setsCookie(0, 3, 1, -1, 0, SECURE, 0);
        navigate(x, 0);
        x.setsCookie(0, 3, -1, -1, 0, 0, 0);
        x.pass(1);
        Due.is("one tick", Due.cookies(x), "2001,3001,");
        x.pass(8);
        Due.is("nine ticks", Due.cookies(x), "2001,3001,");
        x.setsCookie(0, 2, 2, -1, 0, SECURE, 1000);
        navigate(x, 0);
        x.setsCookie(0, 2, -1, -1, 0, 0, 0);
        x.pass(1);
        Due.is("ten ticks, replaced", Due.cookies(x), "2002,3001,");
        x.pass(998);
        Due.is("one ahead of its time", Due.cookies(x), "2002,3001,");
        x.pass(1);
        Due.is("its time", Due.cookies(x), "3001,");
        x.pass(1000);
        Due.is("the age 0 stays", Due.cookies(x), "3001,");
    }

    private static void setsBehindRefusals() {
        HopRules x = scene();
        x.setsCookie(4, 1, 1, -1, 0, SECURE, 0);
        x.request(0, 4, 2, 1, 2, false);
        Due.is("refused by the preflight", x.cookies(), 0);
        x.request(0, 9, 0, 1, 2, false);
        Due.is("refused for mixing", x.cookies(), 0);
        x.request(0, 4, 0, 1, 2, false);
        Due.is("refused by the answer", x.cookies(), 1);
        Due.is("refused by the answer: judged", x.judged(2), 3);
    }

    private static void refusesRecords() {
        HopRules x = scene();
        Due.bounds("cookie 0", () -> x.cookie(0));
        x.setsCookie(0, 1, 1, -1, 0, SECURE, 0);
        navigate(x, 0);
        Due.is("cookie 0 is there", x.cookie(0), 1001);
        Due.bounds("cookie -1", () -> x.cookie(-1));
        Due.bounds("cookie 1", () -> x.cookie(1));
    }
}
