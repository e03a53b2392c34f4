/** Promises 13, 19 and 20: the limits that evict cookies. */
public final class CookieLimitsTest {
    private static final int SECURE = 1;
    private static final int PARTITIONED = 2;
    private static final int LAX = 4;

    public static void main(String[] args) {
        keepsFourOfASite();
        countsSites();
        countsPartitions();
        sparesSecureOnes();
        letsTheNewOneGo();
        countsSendingAsUse();
        countsTheOrderOfSending();
        countsReplacingAsUse();
        letsManyGoAtOnce();
        keepsTenOfAll();
        takesTheOldestOfAll();
        Due.end();
    }

    /** Hosts: 0 a, 1 a.a, 2 b to 6 f. https: address 0 to 6 for them. Page 0 at 0. */
    private static HopRules scene() {
        HopRules x = new HopRules();
        x.host(-1, 0, false);
        x.host(0, 0, false);
        for (int label = 1; label < 6; label++) {
            x.host(-1, label, false);
        }
        for (int host = 0; host < 7; host++) {
            x.address(1, host, 0, 0);
        }
        x.page(0, -1, 0);
        return x;
    }

    /** Sets a cookie for a path at which it is not sent, so that only the setting is its use. */
    private static void put(HopRules x, int address, int name, int flags) {
        x.setsCookie(address, name, name, -1, 9, flags, 0);
        x.request(0, address, 0, 2, 0, false);
        x.setsCookie(address, name, -1, -1, 0, 0, 0);
    }

    private static void keepsFourOfASite() {
        HopRules x = scene();
        for (int name = 1; name < 5; name++) {
            put(x, 0, name, LAX);
        }
        Due.is("four", Due.cookies(x), "1001,2002,3003,4004,");
        put(x, 0, 5, LAX);
        Due.is("the first goes", Due.cookies(x), "2002,3003,4004,5005,");
        put(x, 2, 6, LAX);
        Due.is("one of another site", Due.cookies(x), "2002,3003,4004,5005,206006,");
        put(x, 0, 7, SECURE);
        Due.is("the second goes", Due.cookies(x), "3003,4004,5005,206006,7007,");
    }

    private static void countsSites() {
        HopRules x = scene();
        put(x, 1, 1, LAX);
        put(x, 1, 2, LAX);
        put(x, 0, 3, LAX);
        put(x, 0, 4, LAX);
        put(x, 1, 5, LAX);
        Due.is("hosts of the same site", Due.cookies(x), "102002,3003,4004,105005,");
        x.toggleSuffix(0);
        put(x, 1, 6, LAX);
        put(x, 1, 7, LAX);
        put(x, 0, 8, LAX);
        Due.is("of another site each", Due.cookies(x), "102002,3003,4004,105005,106006,107007,8008,");
        put(x, 1, 9, LAX);
        Due.is("of its own site", Due.cookies(x), "3003,4004,105005,106006,107007,8008,109009,");
    }

    private static void countsPartitions() {
        HopRules x = scene();
        for (int name = 1; name < 5; name++) {
            put(x, 2, name, SECURE | PARTITIONED);
        }
        put(x, 2, 5, SECURE);
        Due.is("in none", Due.cookies(x), "50201001,50202002,50203003,50204004,205005,");
        x.setsCookie(2, 6, 6, -1, 9, SECURE | PARTITIONED, 0);
        x.request(0, 2, 0, 0, 2, false);
        Due.is("in another", x.cookies(), 6);
        x.setsCookie(2, 6, -1, -1, 0, 0, 0);
        put(x, 2, 7, SECURE | PARTITIONED);
        Due.is("in the same", Due.cookies(x), "50202002,50203003,50204004,205005,50206006,50207007,");
    }

    private static void sparesSecureOnes() {
        HopRules x = scene();
        put(x, 0, 1, SECURE);
        put(x, 0, 2, SECURE);
        put(x, 0, 3, LAX);
        put(x, 0, 4, LAX);
        put(x, 0, 5, SECURE);
        Due.is("the first that is not secure", Due.cookies(x), "1001,2002,4004,5005,");
        put(x, 0, 6, SECURE);
        Due.is("the last that is not secure", Due.cookies(x), "1001,2002,5005,6006,");
        put(x, 0, 7, SECURE);
        Due.is("the first of secure ones", Due.cookies(x), "2002,5005,6006,7007,");
    }

    private static void letsTheNewOneGo() {
        HopRules x = scene();
        for (int name = 1; name < 5; name++) {
            put(x, 0, name, SECURE);
        }
        put(x, 0, 5, LAX);
        Due.is("the new one goes", Due.cookies(x), "1001,2002,3003,4004,");
    }

    private static void countsSendingAsUse() {
        HopRules x = scene();
        int deep = x.address(1, 0, 0, 9);
        for (int name = 1; name < 5; name++) {
            put(x, 0, name, LAX);
        }
        x.setsCookie(0, 0, -1, -1, 0, 0, 0);
        put(x, 1, 5, LAX);
        Due.is("not sent", Due.cookies(x), "2002,3003,4004,105005,");
        x.request(0, deep, 0, 2, 0, false);
        Due.is("sent", Due.sent(x, 5, 0), "2002,3003,4004,");
        put(x, 1, 6, LAX);
        Due.is("the one that was not sent goes", Due.cookies(x), "2002,3003,4004,106006,");
    }

    private static void countsTheOrderOfSending() {
        HopRules x = scene();
        int deep = x.address(1, 0, 0, 12);
        x.setsCookie(deep, 1, 1, -1, 0, LAX, 0);
        x.request(0, deep, 0, 2, 0, false);
        x.setsCookie(deep, 2, 2, -1, 12, LAX, 0);
        x.request(0, deep, 0, 2, 0, false);
        x.setsCookie(deep, 3, 3, -1, 1, LAX, 0);
        x.request(0, deep, 0, 2, 0, false);
        x.setsCookie(deep, 0, -1, -1, 0, 0, 0);
        x.request(0, deep, 0, 2, 0, false);
        Due.is("sent", Due.sent(x, 3, 0), "2002,3003,1001,");
        put(x, 1, 4, LAX);
        put(x, 1, 5, LAX);
        Due.is("the one sent first goes", Due.cookies(x), "1001,3003,104004,105005,");
        put(x, 1, 6, LAX);
        Due.is("the one sent second goes", Due.cookies(x), "1001,104004,105005,106006,");
    }

    private static void countsReplacingAsUse() {
        HopRules x = scene();
        for (int name = 1; name < 5; name++) {
            put(x, 0, name, LAX);
        }
        put(x, 0, 1, LAX);
        put(x, 0, 5, LAX);
        Due.is("the second goes", Due.cookies(x), "1001,3003,4004,5005,");
    }

    private static void letsManyGoAtOnce() {
        HopRules x = scene();
        x.toggleSuffix(0);
        for (int name = 1; name < 4; name++) {
            put(x, 0, name, LAX);
            put(x, 1, name, SECURE);
        }
        put(x, 0, 4, SECURE);
        Due.is("two sites", x.cookies(), 7);
        x.toggleSuffix(0);
        put(x, 1, 5, SECURE);
        Due.is("down to four", Due.cookies(x), "102002,103003,4004,105005,");
    }

    private static void keepsTenOfAll() {
        HopRules x = scene();
        for (int name = 1; name < 5; name++) {
            put(x, 2, name, LAX);
            put(x, 3, name, LAX);
        }
        put(x, 4, 1, LAX);
        put(x, 4, 2, LAX);
        Due.is("ten", x.cookies(), 10);
        put(x, 5, 1, SECURE);
        Due.is("the first of all goes", Due.cookies(x),
            "301001,202002,302002,203003,303003,204004,304004,401001,402002,501001,");
        put(x, 2, 5, LAX);
        put(x, 2, 6, LAX);
        Due.is("one of the site goes", Due.cookies(x),
            "302002,203003,303003,204004,304004,401001,402002,501001,205005,206006,");
    }

    private static void takesTheOldestOfAll() {
        HopRules x = scene();
        int deep = x.address(1, 2, 0, 9);
        for (int site = 2; site < 7; site++) {
            put(x, site, 1, site == 3 ? SECURE : LAX);
            put(x, site, 2, SECURE);
        }
        x.request(0, deep, 0, 2, 0, false);
        put(x, 0, 3, SECURE);
        Due.is("the oldest that is not secure, by its use", Due.cookies(x),
            "201001,202002,301001,302002,402002,501001,502002,601001,602002,3003,");
        put(x, 0, 4, SECURE);
        put(x, 0, 5, SECURE);
        put(x, 0, 6, SECURE);
        Due.is("all that are not secure", Due.cookies(x),
            "202002,301001,302002,402002,502002,602002,3003,4004,5005,6006,");
        put(x, 2, 7, LAX);
        Due.is("the new one goes", Due.cookies(x),
            "202002,301001,302002,402002,502002,602002,3003,4004,5005,6006,");
        put(x, 2, 7, SECURE);
        Due.is("the oldest secure one", Due.cookies(x),
            "202002,302002,402002,502002,602002,3003,4004,5005,6006,207007,");
    }
}
