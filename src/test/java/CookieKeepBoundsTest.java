/**
 * The boundary cases of how cookies are replaced, how long they stay, and which go beyond the limits ("Cookies", its
 * third paragraph), a test for each sentence, which is quoted ahead of it.
 */
public final class CookieKeepBoundsTest {
    private static final int SECURE = 1;
    private static final int PARTITIONED = 2;
    private static final int LAX = 4;

    public static void main(String[] args) {
        isInThePartitionOfTheHop();
        replacesTheSameAlone();
        keepsItsPlace();
        takesAllOfTheNewOne();
        goesWithTheAgeMinus1();
        staysWithTheAge0();
        goesSoManyTicksLater();
        countsTicksFromTheLastSetting();
        isNotThereAnyMoreAtItsTime();
        keepsFourOfASiteHost();
        keepsFourInEachPartition();
        countsSiteHostsAsTheyAreNow();
        letsOneAfterTheOtherGo();
        letsNoneGoIfNoneIsMade();
        keepsTenOfAll();
        takesOneOfTheSiteAheadOfOneOfAll();
        takesThoseThatAreNotSecure();
        takesTheOneSetTheLongestTimeAgo();
        takesTheOneSentTheLongestTimeAgo();
        takesThemByTheOrderOfSending();
        letsTheNewOneGoItself();
        Due.end();
    }

    /** https: 0 a to 5 f, 6 b.a, 7 c.a; page 0 at 0. */
    private static HopRules scene() {
        HopRules x = new HopRules();
        Told.addresses(x, "https://a/", "https://b/", "https://c/", "https://d/", "https://e/", "https://f/",
            "https://b.a/", "https://c.a/");
        x.page(0, -1, 0);
        return x;
    }

    private static String set(HopRules x, int address, int name, int value, int flags, int age) {
        x.setsCookie(address, name, value, -1, 0, flags, age);
        return visit(x, address);
    }

    private static String visit(HopRules x, int address) {
        x.request(0, address, 0, 2, 0, false);
        return Due.cookies(x);
    }

    /** Sets a cookie for a path at which it is not sent, so that only the setting is its use. */
    private static String put(HopRules x, int address, int name, int flags) {
        x.setsCookie(address, name, name, -1, 9, flags, 0);
        visit(x, address);
        x.setsCookie(address, name, -1, -1, 0, 0, 0);
        return Due.cookies(x);
    }

    /** "A partitioned cookie is in the partition of the hop." */
    private static void isInThePartitionOfTheHop() {
        HopRules x = scene();
        x.setsCookie(1, 1, 1, -1, 0, SECURE | PARTITIONED, 0);
        x.request(0, 1, 0, 0, 2, false);
        visit(x, 1);
        Due.is("one for the page, and one for the address that is navigated to", Due.cookies(x), "50101001,50101001,");
        x.request(x.page(2, -1, 0), 1, 0, 0, 2, false);
        Due.is("one for another page", x.cookies(), 3);
        x.request(x.page(6, -1, 0), 1, 0, 0, 2, false);
        x.request(x.page(1, 0, 0), 1, 0, 0, 2, false);
        x.request(x.page(1, -1, 0), 1, 0, 0, 2, false);
        Due.is("none for pages of these sites", x.cookies(), 3);
    }

    /** "A cookie with the same name, host, path and partition (or none) is replaced by it" */
    private static void replacesTheSameAlone() {
        HopRules x = scene();
        x.setsCookie(6, 1, 1, -1, 0, SECURE, 0);
        Due.is("one", visit(x, 6), "601001,");
        x.setsCookie(6, 1, 2, -1, 0, SECURE, 0);
        Due.is("the same", visit(x, 6), "601002,");
        x.setsCookie(6, 2, 3, -1, 0, SECURE, 0);
        Due.is("another name", visit(x, 6), "601002,602003,");
        x.setsCookie(6, 1, 4, 0, 0, SECURE, 0);
        Due.is("another host", visit(x, 6), "601002,602003,1004,");
        x.setsCookie(6, 1, 5, -1, 1, SECURE, 0);
        Due.is("another path", visit(x, 6), "601002,602003,1004,601005,");
        x.setsCookie(6, 1, 6, -1, 0, SECURE | PARTITIONED, 0);
        Due.is("a partition", visit(x, 6), "601002,602003,1004,601005,50601006,");
        x.request(x.page(3, -1, 0), 6, 0, 0, 2, false);
        Due.is("another partition", Due.cookies(x), "601002,602003,1004,601005,50601006,50601006,");
        x.setsCookie(6, 1, 7, -1, 0, SECURE | PARTITIONED, 0);
        Due.is("the first partition again", visit(x, 6), "601002,602003,1004,601005,50601007,50601006,");
        x.setsCookie(6, 1, 8, 6, 0, SECURE, 0);
        Due.is("for the same host, and those under it", visit(x, 6), "601008,602003,1004,601005,50601007,50601006,");
    }

    /** "the new one keeps its place in the order of making" */
    private static void keepsItsPlace() {
        HopRules x = scene();
        for (int name = 0; name < 3; name++) {
            set(x, 0, name, 1, SECURE, 0);
        }
        Due.is("the first", set(x, 0, 0, 2, SECURE, 0), "2,1001,2001,");
        Due.is("the last", set(x, 0, 2, 2, SECURE, 0), "2,1001,2002,");
        Due.is("the one between", set(x, 0, 1, 2, SECURE, 0), "2,1002,2002,");
        Due.is("a new one", set(x, 0, 3, 2, SECURE, 0), "2,1002,2002,3002,");
        visit(x, 0);
        Due.is("sent in this order", Due.sent(x, 7, 0), "2,1002,2002,3002,");
    }

    /** The same sentence: the new one counts, with its flags and its age. */
    private static void takesAllOfTheNewOne() {
        HopRules x = scene();
        set(x, 0, 1, 1, SECURE, 5);
        set(x, 0, 2, 1, LAX, 0);
        set(x, 0, 1, 2, LAX, 0);
        set(x, 0, 2, 2, SECURE, 5);
        Due.is("both", Due.cookies(x), "1002,2002,");
        x.request(0, Told.address(x, "http://a/"), 0, 2, 0, false);
        Due.is("the flags", Due.sent(x, 4, 0), "1002,");
        x.pass(5);
        Due.is("the age", Due.cookies(x), "1002,");
    }

    /** "With the age -1 that one goes, and none is made" */
    private static void goesWithTheAgeMinus1() {
        HopRules x = scene();
        Due.is("none was there, and none is made", set(x, 0, 1, 1, SECURE, -1), "");
        set(x, 0, 1, 1, SECURE, 0);
        set(x, 0, 2, 2, SECURE, 0);
        set(x, 0, 3, 3, SECURE, 0);
        Due.is("that one goes", set(x, 0, 2, 9, SECURE, -1), "1001,3003,");
        Due.is("it is gone already", set(x, 0, 2, 9, SECURE, -1), "1001,3003,");
        x.setsCookie(0, 1, 9, -1, 1, SECURE, -1);
        Due.is("another path", visit(x, 0), "1001,3003,");
        x.setsCookie(0, 1, 9, -1, 0, SECURE | PARTITIONED, -1);
        Due.is("a partition", visit(x, 0), "1001,3003,");
        x.setsCookie(0, 1, 9, -1, 0, 0, -1);
        Due.is("one that is refused", visit(x, 0), "1001,3003,");
        Due.is("made anew behind the others", set(x, 0, 2, 2, SECURE, 0), "1001,3003,2002,");
    }

    /** "with 0 it stays" */
    private static void staysWithTheAge0() {
        HopRules x = scene();
        set(x, 0, 1, 1, SECURE, 0);
        for (int times = 0; times < 300; times++) {
            x.pass(1000);
        }
        Due.is("300000 ticks later", Due.cookies(x), "1001,");
    }

    /** "with more it is gone so many ticks later" */
    private static void goesSoManyTicksLater() {
        for (int age : new int[] {1, 2, 7, 999, 1000}) {
            HopRules x = scene();
            x.pass(3);
            Due.is("at once, " + age, set(x, 0, 1, 1, SECURE, age), "1001,");
            x.setsCookie(0, 1, -1, -1, 0, 0, 0);
            if (age > 1) {
                x.pass(age - 1);
            }
            Due.is("one tick ahead of its time, " + age, Due.cookies(x), "1001,");
            visit(x, 0);
            Due.is("sent one tick ahead of its time, " + age, Due.sent(x, 1, 0), "1001,");
            x.pass(1);
            Due.is("at its time, " + age, Due.cookies(x), "");
            visit(x, 0);
            Due.is("not sent at its time, " + age, Due.sent(x, 2, 0), "");
        }
    }

    /** The same sentence: a cookie that is set again is gone so many ticks later than that. */
    private static void countsTicksFromTheLastSetting() {
        HopRules x = scene();
        set(x, 0, 1, 1, SECURE, 10);
        x.pass(9);
        set(x, 0, 1, 1, SECURE, 10);
        x.pass(9);
        Due.is("18 ticks behind the first", x.cookies(), 1);
        x.pass(1);
        Due.is("10 ticks behind the second", x.cookies(), 0);
        set(x, 0, 1, 1, SECURE, 1000);
        set(x, 0, 1, 1, SECURE, 1);
        x.pass(1);
        Due.is("a time that comes earlier", x.cookies(), 0);
    }

    /** "may have a time at which it is gone": then it neither counts nor keeps a place */
    private static void isNotThereAnyMoreAtItsTime() {
        HopRules x = scene();
        set(x, 0, 1, 1, SECURE, 5);
        for (int name = 2; name < 5; name++) {
            set(x, 0, name, name, SECURE, 0);
        }
        x.pass(5);
        Due.is("made anew behind the others, and with room", set(x, 0, 1, 1, SECURE, 0), "2002,3003,4004,1001,");
    }

    /**
     * "If then the cookies whose hosts have the same site host as its own [...] are more than 4, one of these goes"
     */
    private static void keepsFourOfASiteHost() {
        HopRules x = scene();
        for (int name = 1; name < 5; name++) {
            put(x, name % 2 == 0 ? 6 : 7, name, LAX);
        }
        Due.is("four of two hosts", Due.cookies(x), "701001,602002,703003,604004,");
        Due.is("one of another site", put(x, 1, 5, LAX), "701001,602002,703003,604004,105005,");
        Due.is("the fifth", put(x, 0, 6, LAX), "602002,703003,604004,105005,6006,");
        Due.is("one that is replaced is no fifth", put(x, 0, 6, SECURE), "602002,703003,604004,105005,6006,");
        x.setsCookie(0, 7, 7, -1, 0, LAX, -1);
        Due.is("one that is not made is no fifth", visit(x, 0), "602002,703003,604004,105005,6006,");
    }

    /** "[...] in the same partition (or in none, likewise) [...]" */
    private static void keepsFourInEachPartition() {
        HopRules x = scene();
        int other = x.page(1, -1, 0);
        for (int name = 1; name < 5; name++) {
            x.setsCookie(0, name, name, -1, 9, SECURE | PARTITIONED, 0);
            visit(x, 0);
            x.setsCookie(0, name, name, -1, 9, SECURE, 0);
            visit(x, 0);
        }
        String eight = "50001001,1001,50002002,2002,50003003,3003,50004004,4004,";
        Due.is("four in each", Due.cookies(x), eight);
        x.setsCookie(0, 5, 5, -1, 9, SECURE | PARTITIONED, 0);
        x.request(other, 0, 0, 0, 2, false);
        Due.is("one in another partition", Due.cookies(x), eight + "50005005,");
        visit(x, 0);
        Due.is("the fifth in the first one", Due.cookies(x), eight.substring(9) + "50005005,50005005,");
        x.setsCookie(0, 5, 5, -1, 9, SECURE, 0);
        visit(x, 0);
        Due.is("the fifth in none", Due.cookies(x),
            "50002002,2002,50003003,3003,50004004,4004,50005005,50005005,5005,");
    }

    /** The same sentence: the site host is what it is now. */
    private static void countsSiteHostsAsTheyAreNow() {
        HopRules x = scene();
        x.toggleSuffix(0);
        for (int name = 1; name < 5; name++) {
            put(x, 6, name, LAX);
        }
        Due.is("another site", put(x, 7, 5, LAX), "601001,602002,603003,604004,705005,");
        x.toggleSuffix(0);
        Due.is("nothing goes by that", x.cookies(), 5);
        Due.is("of the same site", put(x, 7, 5, LAX), "602002,603003,604004,705005,");
    }

    /** "[...] and so on until they are 4" */
    private static void letsOneAfterTheOtherGo() {
        HopRules x = scene();
        x.toggleSuffix(0);
        for (int name = 1; name < 5; name++) {
            put(x, 6, name, LAX);
            put(x, 7, name, LAX);
        }
        put(x, 1, 5, LAX);
        x.toggleSuffix(0);
        Due.is("five go", put(x, 0, 6, LAX), "703003,604004,704004,105005,6006,");
    }

    /** "With the age -1 that one goes, and none is made": then there is none of its own whose site host counts */
    private static void letsNoneGoIfNoneIsMade() {
        HopRules x = scene();
        x.toggleSuffix(0);
        for (int name = 1; name < 4; name++) {
            put(x, 6, name, LAX);
            put(x, 7, name, LAX);
        }
        x.toggleSuffix(0);
        x.setsCookie(6, 1, 1, -1, 9, LAX, -1);
        Due.is("that one alone", visit(x, 6), "701001,602002,702002,603003,703003,");
        Due.is("none", visit(x, 6), "701001,602002,702002,603003,703003,");
    }

    /** Ten cookies that are not secure: two of each of the addresses 1 to 5, first the name 1, then 2. */
    private static HopRules ten() {
        HopRules x = scene();
        for (int name = 1; name < 3; name++) {
            for (int address = 1; address < 6; address++) {
                put(x, address, name, LAX);
            }
        }
        Due.is("ten", x.cookies(), 10);
        return x;
    }

    /** "if all are more than 10, one of all goes" */
    private static void keepsTenOfAll() {
        HopRules x = ten();
        Due.is("the eleventh", put(x, 0, 3, LAX),
            "201001,301001,401001,501001,102002,202002,302002,402002,502002,3003,");
        Due.is("the twelfth", put(x, 5, 3, LAX),
            "301001,401001,501001,102002,202002,302002,402002,502002,3003,503003,");
        Due.is("one that is replaced is no other", put(x, 5, 3, LAX),
            "301001,401001,501001,102002,202002,302002,402002,502002,3003,503003,");
        HopRules y = scene();
        for (int address = 0; address < 3; address++) {
            for (int name = 0; name < 3; name++) {
                put(y, address, name, SECURE);
                put(y, address, name, SECURE | PARTITIONED);
            }
        }
        Due.is("those in partitions count", y.cookies(), 10);
    }

    /** "[...] one of these goes [...]; and then, if all are more than 10, one of all goes" */
    private static void takesOneOfTheSiteAheadOfOneOfAll() {
        HopRules x = scene();
        for (int address = 1; address < 6; address++) {
            put(x, address, 1, LAX);
        }
        put(x, 1, 2, LAX);
        for (int name = 1; name < 5; name++) {
            put(x, 0, name, LAX);
        }
        Due.is("ten", x.cookies(), 10);
        Due.is("the oldest of the site goes, and none of all", put(x, 6, 5, LAX),
            "101001,201001,301001,401001,501001,102002,2002,3003,4004,605005,");
    }

    /** "of those that are not secure, or, if there are none, of all" */
    private static void takesThoseThatAreNotSecure() {
        HopRules x = scene();
        put(x, 0, 1, SECURE);
        put(x, 0, 2, LAX);
        put(x, 0, 3, SECURE | LAX);
        put(x, 0, 4, LAX);
        Due.is("the first that is not", put(x, 0, 5, SECURE), "1001,3003,4004,5005,");
        Due.is("the last that is not", put(x, 0, 6, SECURE), "1001,3003,5005,6006,");
        Due.is("there are none: the first of all", put(x, 0, 7, SECURE), "3003,5005,6006,7007,");
        HopRules y = scene();
        for (int address = 1; address < 6; address++) {
            put(y, address, 1, SECURE);
            put(y, address, 2, address == 4 ? LAX : SECURE);
        }
        put(y, 0, 3, SECURE);
        Due.is("one of all", Due.cookies(y), "101001,102002,201001,202002,301001,302002,401001,501001,502002,3003,");
        put(y, 0, 4, SECURE);
        Due.is("one of all, if all are", Due.cookies(y),
            "102002,201001,202002,301001,302002,401001,501001,502002,3003,4004,");
    }

    /** "the one that was set [...] the longest time ago" */
    private static void takesTheOneSetTheLongestTimeAgo() {
        for (int again = 1; again < 5; again++) {
            HopRules x = scene();
            for (int name = 1; name < 5; name++) {
                put(x, 0, name, LAX);
            }
            put(x, 0, again, LAX);
            x.pass(1);
            put(x, 6, 5, LAX);
            int gone = again == 1 ? 2 : 1;
            Due.is("set again " + again, Due.cookies(x).contains(1001 * gone + ","), false);
            Due.is("four are there", x.cookies(), 4);
        }
    }

    /** "the one that was [...] sent the longest time ago" */
    private static void takesTheOneSentTheLongestTimeAgo() {
        for (int again = 1; again < 5; again++) {
            HopRules x = scene();
            for (int name = 1; name < 5; name++) {
                x.setsCookie(0, name, name, -1, name, LAX, 0);
                visit(x, 0);
            }
            x.setsCookie(0, 1, -1, -1, 0, 0, 0);
            visit(x, Told.address(x, "https://a/" + again));
            Due.is("sent again " + again, Due.sent(x, 4, 0), 1001 * again + ",");
            put(x, 6, 5, LAX);
            int gone = again == 1 ? 2 : 1;
            Due.is("sent again " + again, Due.cookies(x).contains(1001 * gone + ","), false);
            Due.is("four are there", x.cookies(), 4);
        }
    }

    /** "by the order in which that was done": those that are sent at one hop, too */
    private static void takesThemByTheOrderOfSending() {
        HopRules x = scene();
        int[] paths = {0, 1, 12, 123};
        for (int name = 1; name < 5; name++) {
            x.setsCookie(0, name, name, -1, paths[name - 1], LAX, 0);
            visit(x, 0);
        }
        x.setsCookie(0, 1, -1, -1, 0, 0, 0);
        visit(x, Told.address(x, "https://a/1/2/3"));
        Due.is("sent", Due.sent(x, 4, 0), "4004,3003,2002,1001,");
        Due.is("the one sent first", put(x, 6, 5, LAX), "1001,2002,3003,605005,");
        Due.is("the one sent second", put(x, 6, 6, LAX), "1001,2002,605005,606006,");
        Due.is("the one sent third", put(x, 6, 7, LAX), "1001,605005,606006,607007,");
        Due.is("the one sent last", put(x, 6, 8, LAX), "605005,606006,607007,608008,");
    }

    /** "(the new one counts, and may go itself)" */
    private static void letsTheNewOneGoItself() {
        HopRules x = scene();
        for (int name = 1; name < 5; name++) {
            put(x, 0, name, SECURE);
        }
        Due.is("of its site", put(x, 0, 5, LAX), "1001,2002,3003,4004,");
        HopRules y = scene();
        for (int address = 1; address < 6; address++) {
            put(y, address, 1, SECURE);
            put(y, address, 2, SECURE);
        }
        String before = Due.cookies(y);
        Due.is("of all", put(y, 0, 5, LAX), before);
        put(y, 0, 5, SECURE);
        Due.is("a secure one stays", Due.cookies(y).endsWith("502002,5005,"), true);
        HopRules z = ten();
        Due.is("one that is not secure stays if there are others", put(z, 0, 5, LAX).endsWith("502002,5005,"), true);
    }
}
