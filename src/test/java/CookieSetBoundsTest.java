/**
 * The boundary cases of which cookies are set and which are refused ("Cookies", its first two paragraphs), a test for
 * each sentence, which is quoted ahead of it.
 */
public final class CookieSetBoundsTest {
    private static final int SECURE = 1;
    private static final int PARTITIONED = 2;
    private static final int LAX = 4;
    private static final int STRICT = 8;
    private static final int SECURE_PREFIX = 16;
    private static final int HOST_PREFIX = 32;

    public static void main(String[] args) {
        isFromAfarIfThePageIsForeign();
        isFromAfarByThisHopOrOneAhead();
        isFromAfarByItsHopsAloneIfItNavigates();
        setsOneInEachAnswer();
        setsForTheHostAloneWithoutDomain();
        setsForTheHostAloneIfItIsTheSuffix();
        setsForTheDomainAboveTheHost();
        refusesOtherDomains();
        refusesSuffixes();
        refusesSecureOnesOnHttp();
        refusesWhatNeedsToBeSecure();
        refusesThePrefixOfHosts();
        refusesLaxAndStrictOnesFromAfar();
        refusesStrangers();
        refusesUnderASecureOneOfThisName();
        refusesUnderASecureOneOfThePartition();
        refusesUnderASecureOneOfTheHosts();
        refusesUnderASecureOneOfTheFirstSegments();
        refusesOnHttpAlone();
        Due.end();
    }

    /** https: 0 a, 1 b.a, 2 c; http: 3 a, 4 b.a, 5 c; page 0 at 0, page 1 at 3. */
    private static HopRules scene() {
        HopRules x = new HopRules();
        Told.addresses(x, "https://a/", "https://b.a/", "https://c/", "http://a/", "http://b.a/", "http://c/");
        x.page(0, -1, 0);
        x.page(3, -1, 0);
        return x;
    }

    /** The cookies that there are after the page freed the address, whose answer sets this one, with credentials. */
    private static String free(HopRules x, int page, int address, int flags) {
        x.setsCookie(address, 1, 1, -1, 0, flags, 0);
        x.request(page, address, 0, 0, 2, false);
        return Due.cookies(x);
    }

    private static String navigate(HopRules x, int address, int domain, int path, int flags) {
        x.setsCookie(address, 1, 1, domain, path, flags, 0);
        x.request(0, address, 0, 2, 0, false);
        return Due.cookies(x);
    }

    /** "At a hop a request is from afar if the page is foreign [...]" */
    private static void isFromAfarIfThePageIsForeign() {
        HopRules x = scene();
        int near = x.page(0, x.page(1, -1, 0), 0);
        int foreign = x.page(0, x.page(2, -1, 0), 0);
        Due.is("a foreign page", free(x, foreign, 0, LAX), "");
        Due.is("a page that is not foreign", free(x, near, 0, LAX), "1001,");
    }

    /** "[...] or this hop or one ahead of it is to an address of another site than the page's address" */
    private static void isFromAfarByThisHopOrOneAhead() {
        HopRules x = scene();
        Due.is("this hop", free(x, 0, 2, LAX), "");
        x.redirect(2, 0, 0);
        x.setsCookie(0, 1, 1, -1, 0, LAX, 0);
        x.request(0, 2, 0, 0, 2, false);
        Due.is("one ahead of it", x.cookies(), 0);
        x.redirect(2, 1, 0);
        x.redirect(1, 0, 0);
        x.request(0, 2, 0, 0, 2, false);
        Due.is("one far ahead of it", x.cookies(), 0);
        x.redirect(0, 2, 0);
        x.redirect(2, -1, 0);
        x.request(0, 1, 0, 0, 2, false);
        Due.is("one behind it", x.cookies(), 1);
        Due.is("another scheme", free(scene(), 1, 0, LAX), "");
        Due.is("another host of the site", free(scene(), 0, 1, LAX), "101001,");
    }

    /** "(a request that navigates is from afar by its hops alone)" */
    private static void isFromAfarByItsHopsAloneIfItNavigates() {
        HopRules x = scene();
        navigate(x, 0, -1, 0, STRICT);
        x.setsCookie(0, 1, -1, -1, 0, 0, 0);
        x.redirect(2, 0, 0);
        x.request(0, 0, 0, 2, 0, false);
        Due.is("at home", Due.sent(x, 1, 0), "1001,");
        x.request(0, 2, 0, 2, 0, false);
        Due.is("over another site", Due.sent(x, 2, 1), "");
    }

    /** "An address sets at most one cookie, in each answer." */
    private static void setsOneInEachAnswer() {
        HopRules x = scene();
        x.setsCookie(0, 1, 1, -1, 0, SECURE, 0);
        x.setsCookie(0, 2, 2, -1, 0, SECURE, 0);
        x.redirect(0, 0, 0);
        x.request(0, 0, 0, 2, 0, false);
        Due.is("six answers, one cookie", Due.cookies(x), "2002,");
        Due.is("sent at the second hop", Due.sent(x, 0, 1), "2002,");
    }

    /** Whether the cookie that is there is sent at a host under this one, by the request with this number. */
    private static boolean isForHostsUnder(HopRules x, String host, int request) {
        x.request(0, Told.address(x, "https://z." + host + "/"), 0, 2, 0, false);
        return x.sent(request, 0, 0) != -1;
    }

    /** "It is for the host of the address alone if no domain is told [...]" */
    private static void setsForTheHostAloneWithoutDomain() {
        HopRules x = scene();
        Due.is("set", navigate(x, 1, -1, 0, SECURE), "101001,");
        Due.is("for it alone", isForHostsUnder(x, "b.a", 1), false);
    }

    /** "[...] or the domain is a suffix and that host itself" */
    private static void setsForTheHostAloneIfItIsTheSuffix() {
        HopRules x = scene();
        x.toggleSuffix(1);
        Due.is("set", navigate(x, 1, 1, 0, SECURE), "101001,");
        Due.is("for it alone", isForHostsUnder(x, "b.a", 1), false);
        HopRules y = scene();
        Due.is("no suffix, set", navigate(y, 1, 1, 0, SECURE), "101001,");
        Due.is("no suffix, for hosts under it", isForHostsUnder(y, "b.a", 1), true);
        y.toggleSuffix(1);
        Due.is("a suffix since then, for hosts under it", isForHostsUnder(y, "b.a", 2), true);
    }

    /** "otherwise it is for the domain, which has to be the host of the address, or one under which that lies" */
    private static void setsForTheDomainAboveTheHost() {
        for (int domain = 0; domain < 4; domain++) {
            HopRules x = new HopRules();
            int address = Told.address(x, "https://d.c.b.a/");
            x.page(0, -1, 0);
            Due.is("domain " + domain, navigate(x, address, domain, 0, SECURE), 100000 * domain + 1001 + ",");
            String[] hosts = {"a", "b.a", "c.b.a"};
            if (domain < 3) {
                Due.is("for hosts under it", isForHostsUnder(x, hosts[domain], 1), true);
            }
        }
    }

    /** "It is refused if it is not so": another domain */
    private static void refusesOtherDomains() {
        HopRules x = scene();
        Due.is("one under it", navigate(x, 0, 1, 0, SECURE), "");
        Due.is("one beside it", navigate(x, 0, 2, 0, SECURE), "");
        int beside = Told.host(x, "c.a");
        Due.is("one beside it, under the same one", navigate(x, 1, beside, 0, SECURE), "");
        int same = Told.host(x, "b.c");
        Due.is("one with the same label", navigate(x, 1, same, 0, SECURE), "");
    }

    /** "It is refused if it is not so": "[...] and no suffix" */
    private static void refusesSuffixes() {
        HopRules x = new HopRules();
        int address = Told.address(x, "https://d.c.b.a/");
        x.page(0, -1, 0);
        for (int domain = 0; domain < 3; domain++) {
            x.toggleSuffix(domain);
            Due.is("a suffix above it " + domain, navigate(x, address, domain, 0, SECURE), "");
            x.toggleSuffix(domain);
        }
        x.toggleSuffix(1);
        x.toggleSuffix(3);
        Due.is("a suffix above it, which is one itself", navigate(x, address, 1, 0, SECURE), "");
        Due.is("one between two suffixes", navigate(x, address, 2, 0, SECURE), "201001,");
        Due.is("one above a suffix", navigate(x, address, 0, 0, SECURE), "201001,1001,");
    }

    /** "if it is secure and the hop is http" */
    private static void refusesSecureOnesOnHttp() {
        HopRules x = scene();
        Due.is("http", navigate(x, 3, -1, 0, SECURE), "");
        Due.is("http, lax", navigate(x, 3, -1, 0, SECURE | LAX), "");
        Due.is("http, not secure", navigate(x, 3, -1, 0, LAX), "1001,");
        Due.is("https", navigate(x, 2, -1, 0, SECURE), "1001,201001,");
    }

    /** "if it is neither lax nor strict, or is partitioned, or has one of the prefixes, and is not secure" */
    private static void refusesWhatNeedsToBeSecure() {
        int[] plain = {LAX, STRICT, LAX | STRICT};
        int[] needing = {0, PARTITIONED, LAX | PARTITIONED, STRICT | PARTITIONED, LAX | SECURE_PREFIX,
            STRICT | SECURE_PREFIX, LAX | HOST_PREFIX, STRICT | HOST_PREFIX, SECURE_PREFIX, HOST_PREFIX, 62};
        for (int flags : needing) {
            Due.is("flags " + flags, navigate(scene(), 0, -1, 0, flags), "");
            Due.is("flags on http " + flags, navigate(scene(), 3, -1, 0, flags), "");
            boolean isPartitioned = (flags & PARTITIONED) != 0;
            String due = isPartitioned ? "50001001," : "1001,";
            Due.is("flags, secure " + flags, navigate(scene(), 0, -1, 0, flags | SECURE), due);
        }
        for (int flags : plain) {
            Due.is("flags " + flags, navigate(scene(), 0, -1, 0, flags), "1001,");
            Due.is("flags on http " + flags, navigate(scene(), 3, -1, 0, flags), "1001,");
        }
    }

    /** "if it has the prefix of hosts, and a domain is told or the path is not 0" */
    private static void refusesThePrefixOfHosts() {
        HopRules x = scene();
        Due.is("its own host told", navigate(x, 1, 1, 0, SECURE | HOST_PREFIX), "");
        Due.is("one above told", navigate(x, 1, 0, 0, SECURE | HOST_PREFIX), "");
        Due.is("a path told", navigate(x, 1, -1, 1, SECURE | HOST_PREFIX), "");
        Due.is("both told", navigate(x, 1, 1, 999, SECURE | HOST_PREFIX), "");
        x.toggleSuffix(1);
        Due.is("its own host told, a suffix", navigate(x, 1, 1, 0, SECURE | HOST_PREFIX), "");
        Due.is("none told", navigate(x, 1, -1, 0, SECURE | HOST_PREFIX), "101001,");
        Due.is("the other prefix, both told", navigate(x, 0, 0, 999, SECURE | SECURE_PREFIX), "101001,1001,");
    }

    /** "if it is lax or strict, and the request is from afar and does not navigate" */
    private static void refusesLaxAndStrictOnesFromAfar() {
        for (int flags : new int[] {LAX, STRICT, LAX | STRICT, SECURE | LAX, SECURE | STRICT}) {
            Due.is("from afar " + flags, free(scene(), 0, 2, flags), "");
            Due.is("not from afar " + flags, free(scene(), 0, 1, flags), "101001,");
            Due.is("navigates from afar " + flags, navigate(scene(), 2, -1, 0, flags), "201001,");
        }
        Due.is("neither", free(scene(), 0, 2, SECURE), "201001,");
        HopRules x = scene();
        x.setsCookie(2, 1, 1, -1, 0, LAX, 0);
        x.request(0, 2, 0, 1, 2, false);
        Due.is("asked", x.cookies(), 0);
    }

    /** "if it is not partitioned, strangers are blocked, and the request is from afar and does not navigate" */
    private static void refusesStrangers() {
        for (int blocked = 0; blocked < 2; blocked++) {
            HopRules x = scene();
            if (blocked == 1) {
                x.toggleBlocking();
            }
            String due = blocked == 1 ? "" : "201001,";
            Due.is("from afar", free(x, 0, 2, SECURE), due);
            due = due + "50201001,";
            Due.is("partitioned", free(x, 0, 2, SECURE | PARTITIONED), due);
            due = due + "101001,";
            Due.is("not from afar", free(x, 0, 1, SECURE), due);
            due = blocked == 1 ? due + "201001," : due;
            Due.is("navigates", navigate(x, 2, -1, 0, SECURE), due);
        }
    }

    /**
     * Whether a lax cookie with the name 1 is refused at the address, for the domain and the path, where one like
     * the first, secure, with the name, is there; both by navigating.
     */
    private static boolean isUnder(String[] addresses, int[] domains, int[] paths, int name) {
        HopRules x = new HopRules();
        Told.host(x, "c.b.a");
        Told.host(x, "d.a");
        int first = Told.address(x, addresses[0]);
        int second = Told.address(x, addresses[1]);
        x.page(0, -1, 0);
        x.setsCookie(first, name, 1, domains[0], paths[0], SECURE, 0);
        x.request(0, first, 0, 2, 0, false);
        Due.is("the secure one is set", x.cookies(), 1);
        String before = Due.cookies(x);
        navigate(x, second, domains[1], paths[1], LAX);
        x.setsCookie(second, 1, 7, domains[1], paths[1], LAX, 0);
        x.request(0, second, 0, 2, 0, false);
        return Due.cookies(x).equals(before);
    }

    private static boolean isUnder(String first, String second) {
        return isUnder(new String[] {first, second}, new int[] {-1, -1}, new int[] {0, 0}, 1);
    }

    /** "if the hop is http, and there is a secure cookie of this name [...]" */
    private static void refusesUnderASecureOneOfThisName() {
        String[] same = {"https://a/", "http://a/"};
        Due.is("this name", isUnder(same, new int[] {-1, -1}, new int[] {0, 0}, 1), true);
        Due.is("the name before", isUnder(same, new int[] {-1, -1}, new int[] {0, 0}, 0), false);
        Due.is("the name behind", isUnder(same, new int[] {-1, -1}, new int[] {0, 0}, 2), false);
        HopRules x = scene();
        navigate(x, 0, -1, 0, LAX);
        x.setsCookie(3, 1, 2, -1, 0, LAX, 0);
        x.request(0, 3, 0, 2, 0, false);
        Due.is("one that is not secure", Due.cookies(x), "1002,");
        HopRules y = scene();
        y.setsCookie(0, 1, 1, -1, 0, SECURE, 5);
        y.request(0, 0, 0, 2, 0, false);
        y.pass(4);
        Due.is("one tick ahead of its time", navigate(y, 4, -1, 0, LAX), "1001,");
        y.pass(1);
        Due.is("at its time", navigate(y, 4, -1, 0, LAX), "101001,");
        HopRules z = scene();
        navigate(z, 0, -1, 0, SECURE);
        z.setsCookie(3, 1, 2, -1, 0, LAX, -1);
        z.request(0, 3, 0, 2, 0, false);
        Due.is("with the age -1, too", Due.cookies(z), "1001,");
    }

    /** "[...] in no partition or in that of the hop [...]" */
    private static void refusesUnderASecureOneOfThePartition() {
        HopRules x = scene();
        x.setsCookie(0, 1, 1, -1, 0, SECURE | PARTITIONED, 0);
        x.request(1, 0, 0, 0, 2, false);
        Due.is("a secure one in the partition of the http page", Due.cookies(x), "50001001,");
        Due.is("that of the hop", navigate(x, 3, -1, 0, LAX), "50001001,");
        HopRules y = scene();
        y.setsCookie(0, 1, 1, -1, 0, SECURE | PARTITIONED, 0);
        y.request(0, 0, 0, 0, 2, false);
        Due.is("a secure one in the partition of the https page", Due.cookies(y), "50001001,");
        Due.is("another partition", navigate(y, 3, -1, 0, LAX), "50001001,1001,");
        Due.is("in no partition", isUnder("https://a/", "http://a/"), true);
    }

    /** "[...] whose host is the same, or one of both lies under the other one [...]" */
    private static void refusesUnderASecureOneOfTheHosts() {
        Due.is("the same", isUnder("https://b.a/", "http://b.a/"), true);
        Due.is("one under it", isUnder("https://b.a/", "http://c.b.a/"), true);
        Due.is("one far under it", isUnder("https://a/", "http://c.b.a/"), true);
        Due.is("one above it", isUnder("https://c.b.a/", "http://b.a/"), true);
        Due.is("one far above it", isUnder("https://c.b.a/", "http://a/"), true);
        Due.is("one beside it", isUnder("https://b.a/", "http://d.a/"), false);
        Due.is("one with the same label", isUnder("https://b.a/", "http://b/"), false);
        String[] beside = {"https://b.a/", "http://d.a/"};
        Due.is("one beside it, for the one above", isUnder(beside, new int[] {-1, 0}, new int[] {0, 0}, 1), true);
        Due.is("for the one above, one beside it", isUnder(beside, new int[] {0, -1}, new int[] {0, 0}, 1), true);
    }

    /** "[...] and whose segments are the first segments of its path." */
    private static void refusesUnderASecureOneOfTheFirstSegments() {
        int[][] first = {{0, 0}, {0, 1}, {0, 999}, {1, 1}, {1, 12}, {1, 111}, {12, 12}, {12, 123}, {123, 123}};
        int[][] other = {{1, 0}, {1, 2}, {1, 21}, {12, 1}, {12, 21}, {12, 13}, {12, 132}, {12, 112}, {123, 12},
            {123, 124}, {1, 211}};
        String[] same = {"https://a/", "http://a/"};
        for (int[] paths : first) {
            Due.is(paths[0] + " and " + paths[1], isUnder(same, new int[] {-1, -1}, paths, 1), true);
        }
        for (int[] paths : other) {
            Due.is(paths[0] + " and " + paths[1], isUnder(same, new int[] {-1, -1}, paths, 1), false);
        }
    }

    /** "if the hop is http [...]" */
    private static void refusesOnHttpAlone() {
        Due.is("http", isUnder("https://a/", "http://a/"), true);
        Due.is("https", isUnder("https://a/", "https://a/"), false);
        Due.is("https, one under it", isUnder("https://a/", "https://b.a/"), false);
    }
}
