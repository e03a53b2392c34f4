/**
 * The boundary cases of the promises 8 to 11, a test for each sentence, which is quoted ahead of it.
 */
public final class AnswerBoundsTest {
    private static final int[] FAR = {Integer.MIN_VALUE, -1000, 1000000, Integer.MAX_VALUE};

    public static void main(String[] args) {
        redirectsNoneAtFirst();
        redirectsToTheFirstAndTheLast();
        refusesRedirects();
        takesStatusesFrom0To4();
        allowsNothingAtFirst();
        allowsOriginsFromMinus3();
        refusesOrigins();
        takesOthersFrom0To3();
        takesAgesFrom0To1000();
        setsNoneAtFirst();
        setsInPlaceOfTheOneBefore();
        refusesAddressesAndDomains();
        takesNamesFrom0To9();
        takesValuesFromMinus1To999();
        takesPathsOfUpTo3Segments();
        takesFlagsFrom0To63();
        takesAgesOfCookiesFromMinus1To1000();
        looksAtAllPartsEvenIfNoneIsSet();
        togglesBlocking();
        Due.end();
    }

    /** https: 0 a, 1 b, 2 c; page 0 at 0. */
    private static HopRules scene() {
        HopRules x = new HopRules();
        Told.addresses(x, "https://a/", "https://b/", "https://c/");
        x.page(0, -1, 0);
        return x;
    }

    private static int navigate(HopRules x, int address) {
        return x.request(0, address, 0, 2, 0, false);
    }

    /** "Lets an address redirect, or not any more, as at first." */
    private static void redirectsNoneAtFirst() {
        HopRules x = scene();
        navigate(x, 0);
        Due.is("as at first", x.hops(0), 1);
        x.redirect(0, 1, 0);
        navigate(x, 0);
        Due.is("it redirects", x.hops(1), 2);
        x.redirect(0, -1, 4);
        navigate(x, 0);
        Due.is("not any more", x.hops(2), 1);
        x.redirect(0, -1, 0);
        navigate(x, 0);
        Due.is("told again", x.hops(3), 1);
    }

    /** "`to`: an address, or -1" */
    private static void redirectsToTheFirstAndTheLast() {
        HopRules x = Told.fullOfAddresses();
        x.page(0, -1, 0);
        x.redirect(0, 23, 0);
        navigate(x, 0);
        Due.is("to the last", x.hop(0, 1), 23000);
        x.redirect(23, 0, 0);
        x.redirect(0, -1, 0);
        navigate(x, 23);
        Due.is("the last to the first", x.hop(1, 1), 0);
        x.redirect(5, 5, 0);
        Due.is("to itself", navigate(x, 5), 4);
    }

    /** redirect: "Throws IndexOutOfBoundsException if there is no such address, or to is neither -1 nor one" */
    private static void refusesRedirects() {
        Due.bounds("0 without addresses", () -> new HopRules().redirect(0, -1, 0));
        HopRules x = Told.fullOfAddresses();
        for (int far : FAR) {
            Due.bounds("address " + far, () -> x.redirect(far, 0, 0));
            Due.bounds("to " + far, () -> x.redirect(0, far, 0));
        }
        Due.bounds("address -1", () -> x.redirect(-1, 0, 0));
        Due.bounds("address 24", () -> x.redirect(24, 0, 0));
        Due.bounds("to -2", () -> x.redirect(0, -2, 0));
        Due.bounds("to 24", () -> x.redirect(0, 24, 0));
        x.page(0, -1, 0);
        navigate(x, 0);
        Due.is("none came of it", x.hops(0), 1);
    }

    /** "`status`: 0 to 4 for 301, 302, 303, 307, 308" */
    private static void takesStatusesFrom0To4() {
        HopRules x = scene();
        for (int status : new int[] {Integer.MIN_VALUE, -1, 5, 301, Integer.MAX_VALUE}) {
            Due.argument("status " + status, () -> x.redirect(0, 1, status));
            Due.argument("not any more, with the status " + status, () -> x.redirect(0, -1, status));
        }
        String methods = "";
        for (int status = 0; status < 5; status++) {
            x.redirect(0, 1, status);
            x.request(0, 0, 1, 2, 0, false);
            methods = methods + x.hop(status, 1) / 100 % 10;
        }
        Due.is("the methods for 0 to 4", methods, "00011");
    }

    private static int put(HopRules x, int address) {
        return x.request(0, address, 2, 1, 0, false);
    }

    /** "Tells what the answers of an address allow; at first nothing." */
    private static void allowsNothingAtFirst() {
        HopRules x = scene();
        Due.is("no origin", x.request(0, 1, 0, 1, 0, false), 3);
        x.allow(1, -2, false, 0, 0);
        Due.is("all origins", x.request(0, 1, 0, 1, 0, false), 0);
        Due.is("nothing else", put(x, 1), 5);
        Due.is("another address allows nothing", x.request(0, 2, 0, 1, 0, false), 3);
        x.allow(1, -1, true, 3, 1000);
        Due.is("none any more", x.request(0, 1, 0, 1, 0, false), 3);
    }

    /** "`origins`: -1 for none, -2 for all, -3 for the taint, or an address for its origin" */
    private static void allowsOriginsFromMinus3() {
        HopRules x = Told.fullOfAddresses();
        x.page(0, -1, 0);
        x.page(23, -1, 0);
        x.allow(1, 0, false, 0, 0);
        Due.is("0, the first address", x.request(0, 1, 0, 1, 0, false), 0);
        Due.is("0, another page", x.request(1, 1, 0, 1, 0, false), 3);
        x.allow(1, 23, false, 0, 0);
        Due.is("23, the last address", x.request(1, 1, 0, 1, 0, false), 0);
        Due.is("23, another page", x.request(0, 1, 0, 1, 0, false), 3);
        x.allow(1, -1, false, 0, 0);
        Due.is("-1", x.request(0, 1, 0, 1, 0, false), 3);
        x.allow(1, -2, false, 0, 0);
        Due.is("-2", x.request(0, 1, 0, 1, 0, false), 0);
        x.redirect(1, 2, 0);
        x.allow(2, -3, false, 0, 0);
        Due.is("-3, tainted", x.request(0, 1, 0, 1, 0, false), 0);
        Due.is("-3, not tainted", x.request(0, 2, 0, 1, 0, false), 3);
    }

    /** allow: "Throws IndexOutOfBoundsException if there is no such address, or origins is none of these" */
    private static void refusesOrigins() {
        Due.bounds("0 without addresses", () -> new HopRules().allow(0, -2, false, 0, 0));
        HopRules x = Told.fullOfAddresses();
        for (int far : FAR) {
            Due.bounds("address " + far, () -> x.allow(far, -2, false, 0, 0));
            Due.bounds("origins " + far, () -> x.allow(0, far, false, 0, 0));
        }
        Due.bounds("address -1", () -> x.allow(-1, -2, false, 0, 0));
        Due.bounds("address 24", () -> x.allow(24, -2, false, 0, 0));
        Due.bounds("origins -4", () -> x.allow(0, -4, false, 0, 0));
        Due.bounds("origins 24", () -> x.allow(0, 24, false, 0, 0));
        x.allow(23, -3, false, 0, 0);
        HopRules y = scene();
        Due.bounds("origins behind the last address", () -> y.allow(0, 3, false, 0, 0));
        y.allow(0, 2, false, 0, 0);
    }

    /** "`others`: a set, 0 to 3: 1 for PUT, 2 for headers, added" */
    private static void takesOthersFrom0To3() {
        HopRules x = scene();
        for (int others : new int[] {Integer.MIN_VALUE, -1, 4, Integer.MAX_VALUE}) {
            Due.argument("others " + others, () -> x.allow(1, -2, false, others, 0));
        }
        int[][] due = {{5, 5, 5}, {0, 5, 5}, {5, 0, 5}, {0, 0, 0}};
        for (int others = 0; others < 4; others++) {
            x.allow(1, -2, false, others, 0);
            Due.is("PUT of " + others, put(x, 1), due[others][0]);
            Due.is("header of " + others, x.request(0, 1, 0, 1, 0, true), due[others][1]);
            Due.is("both of " + others, x.request(0, 1, 2, 1, 0, true), due[others][2]);
        }
    }

    /** "`age`: 0 to 1000 ticks" */
    private static void takesAgesFrom0To1000() {
        HopRules x = scene();
        for (int age : new int[] {Integer.MIN_VALUE, -1, 1001, Integer.MAX_VALUE}) {
            Due.argument("age " + age, () -> x.allow(1, -2, false, 3, age));
        }
        x.allow(1, -2, false, 1, 0);
        put(x, 1);
        put(x, 1);
        Due.is("the age 0 keeps none", x.count(2), 2);
        x.allow(1, -2, false, 1, 1000);
        put(x, 1);
        x.pass(999);
        put(x, 1);
        Due.is("the age 1000, 999 ticks later", x.count(2), 3);
        x.pass(1);
        put(x, 1);
        Due.is("the age 1000, 1000 ticks later", x.count(2), 4);
    }

    /** "Tells which cookie the answers of an address set [...]; at first none." */
    private static void setsNoneAtFirst() {
        HopRules x = scene();
        navigate(x, 0);
        Due.is("none", x.cookies(), 0);
        x.setsCookie(0, 0, 0, -1, 0, 1, 0);
        navigate(x, 1);
        Due.is("none of another address", x.cookies(), 0);
        navigate(x, 0);
        Due.is("one", x.cookies(), 1);
    }

    /** "[...] in place of the one before [...]", "`value`: [...] or -1 so that none is set" */
    private static void setsInPlaceOfTheOneBefore() {
        HopRules x = scene();
        x.setsCookie(0, 1, 1, -1, 0, 1, 0);
        x.setsCookie(0, 2, 2, -1, 0, 1, 0);
        navigate(x, 0);
        Due.is("the last one alone", Due.cookies(x), "2002,");
        x.setsCookie(0, 2, -1, -1, 0, 1, -1);
        navigate(x, 0);
        Due.is("none is set, and none goes", Due.cookies(x), "2002,");
        x.setsCookie(0, 3, 3, -1, 0, 1, 0);
        navigate(x, 0);
        Due.is("one again", Due.cookies(x), "2002,3003,");
    }

    /**
     * setsCookie: "Throws IndexOutOfBoundsException if there is no such address, or domain is neither -1 nor a host"
     */
    private static void refusesAddressesAndDomains() {
        Due.bounds("0 without addresses", () -> new HopRules().setsCookie(0, 0, 0, -1, 0, 1, 0));
        HopRules x = Told.fullOfAddresses();
        for (int far : FAR) {
            Due.bounds("address " + far, () -> x.setsCookie(far, 0, 0, -1, 0, 1, 0));
            Due.bounds("domain " + far, () -> x.setsCookie(0, 0, 0, far, 0, 1, 0));
        }
        Due.bounds("address -1", () -> x.setsCookie(-1, 0, 0, -1, 0, 1, 0));
        Due.bounds("address 24", () -> x.setsCookie(24, 0, 0, -1, 0, 1, 0));
        Due.bounds("domain -2", () -> x.setsCookie(0, 0, 0, -2, 0, 1, 0));
        Due.bounds("domain 16", () -> x.setsCookie(0, 0, 0, 16, 0, 1, 0));
        x.page(15, -1, 0);
        x.setsCookie(15, 0, 0, 15, 0, 1, 0);
        navigate(x, 15);
        Due.is("the last host", Due.cookies(x), "1500000,");
        x.setsCookie(0, 0, 0, 0, 0, 1, 0);
        navigate(x, 0);
        Due.is("the first host", Due.cookies(x), "1500000,0,");
        x.setsCookie(23, 0, 0, -1, 0, 4, 0);
        navigate(x, 23);
        Due.is("the last address", Due.cookies(x), "1500000,0,700000,");
        HopRules y = scene();
        Due.bounds("behind the last host", () -> y.setsCookie(0, 0, 0, 3, 0, 1, 0));
    }

    private static String set(HopRules x) {
        navigate(x, 0);
        return Due.cookies(x);
    }

    /** "`name`: 0 to 9" */
    private static void takesNamesFrom0To9() {
        HopRules x = scene();
        for (int name : new int[] {Integer.MIN_VALUE, -1, 10, Integer.MAX_VALUE}) {
            Due.argument("name " + name, () -> x.setsCookie(0, name, 5, -1, 0, 1, 0));
        }
        x.setsCookie(0, 0, 5, -1, 0, 1, 0);
        Due.is("the least", set(x), "5,");
        x.setsCookie(0, 9, 5, -1, 0, 1, 0);
        Due.is("the greatest", set(x), "5,9005,");
    }

    /** "`value`: 0 to 999, or -1 so that none is set" */
    private static void takesValuesFromMinus1To999() {
        HopRules x = scene();
        for (int value : new int[] {Integer.MIN_VALUE, -2, 1000, Integer.MAX_VALUE}) {
            Due.argument("value " + value, () -> x.setsCookie(0, 1, value, -1, 0, 1, 0));
        }
        x.setsCookie(0, 1, -1, -1, 0, 1, 0);
        Due.is("-1", set(x), "");
        x.setsCookie(0, 1, 0, -1, 0, 1, 0);
        Due.is("the least", set(x), "1000,");
        x.setsCookie(0, 1, 999, -1, 0, 1, 0);
        Due.is("the greatest", set(x), "1999,");
    }

    /** "`path`: as for address()" */
    private static void takesPathsOfUpTo3Segments() {
        HopRules x = scene();
        for (int path = -20; path < 1300; path++) {
            int told = path;
            boolean isOne = path == 0 || String.valueOf(path).matches("[1-9]{1,3}");
            String thrown = Due.thrownBy(() -> x.setsCookie(0, 1, 1, -1, told, 1, 0));
            Due.is("path " + path, thrown, isOne ? "nothing" : "IllegalArgumentException");
        }
        x.setsCookie(0, 1, 1, -1, 999, 1, 0);
        Due.is("the greatest", set(x), "1001,");
        navigate(x, Told.address(x, "https://a/9/9/9"));
        Due.is("the greatest is sent", Due.sent(x, 1, 0), "1001,");
    }

    /** "`flags`: 0 to 63" */
    private static void takesFlagsFrom0To63() {
        HopRules x = scene();
        for (int flags : new int[] {Integer.MIN_VALUE, -1, 64, 65, Integer.MAX_VALUE}) {
            Due.argument("flags " + flags, () -> x.setsCookie(0, 1, 1, -1, 0, flags, 0));
        }
        x.setsCookie(0, 1, 1, -1, 0, 0, 0);
        Due.is("the least, which is refused at the hop", set(x), "");
        x.setsCookie(0, 1, 1, -1, 0, 63, 0);
        Due.is("the greatest", set(x), "50001001,");
    }

    /** setsCookie: "`age`: -1 to 1000" */
    private static void takesAgesOfCookiesFromMinus1To1000() {
        HopRules x = scene();
        for (int age : new int[] {Integer.MIN_VALUE, -2, 1001, Integer.MAX_VALUE}) {
            Due.argument("age " + age, () -> x.setsCookie(0, 1, 1, -1, 0, 1, age));
        }
        x.setsCookie(0, 1, 1, -1, 0, 1, 1000);
        Due.is("the greatest", set(x), "1001,");
        x.pass(999);
        Due.is("the greatest, 999 ticks later", Due.cookies(x), "1001,");
        x.pass(1);
        Due.is("the greatest, 1000 ticks later", Due.cookies(x), "");
        Due.is("set anew", set(x), "1001,");
        x.setsCookie(0, 1, 1, -1, 0, 1, -1);
        Due.is("the least", set(x), "");
    }

    /** setsCookie: "Throws IllegalArgumentException if name, value, path, flags or age is out of range" */
    private static void looksAtAllPartsEvenIfNoneIsSet() {
        HopRules x = scene();
        Due.argument("name", () -> x.setsCookie(0, 10, -1, -1, 0, 1, 0));
        Due.argument("path", () -> x.setsCookie(0, 1, -1, -1, 10, 1, 0));
        Due.argument("flags", () -> x.setsCookie(0, 1, -1, -1, 0, 64, 0));
        Due.argument("age", () -> x.setsCookie(0, 1, -1, -1, 0, 1, 1001));
        Due.bounds("domain", () -> x.setsCookie(0, 1, -1, 3, 0, 1, 0));
    }

    /** "Blocks strangers, or no more." "Returns true if they are blocked then." */
    private static void togglesBlocking() {
        HopRules x = scene();
        x.setsCookie(1, 1, 1, -1, 0, 1, 0);
        for (int times = 0; times < 3; times++) {
            Due.is("they are blocked", x.toggleBlocking(), true);
            x.request(0, 1, 0, 0, 2, false);
            Due.is("blocked", x.cookies(), times == 0 ? 0 : 1);
            Due.is("they are not blocked", x.toggleBlocking(), false);
            x.request(0, 1, 0, 0, 2, false);
            Due.is("not blocked", x.cookies(), 1);
        }
    }
}
