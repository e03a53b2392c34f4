/**
 * The boundary cases of "Pages" and of the promises 12 and 14, a test for each sentence, which is quoted ahead of it.
 */
public final class PageBoundsTest {
    public static void main(String[] args) {
        numbersEightPages();
        refusesTheNinthPage();
        refusesAddresses();
        refusesParents();
        takesPoliciesFrom0To4();
        findsTheTopPageFromAnyDepth();
        isForeignByAnyPageAbove();
        isNotForeignByItself();
        isForeignBySitesAsTheyAreNow();
        passesFrom1To1000();
        addsTicks();
        Due.end();
    }

    /** "Pages are numbered from 0, at most 8." */
    private static void numbersEightPages() {
        HopRules x = new HopRules();
        Told.address(x, "https://a/");
        for (int i = 0; i < 8; i++) {
            Due.is("page " + i, x.page(0, i % 2 == 0 ? -1 : i - 1, 0), i);
        }
        Due.is("the last one is there", x.request(7, 0, 0, 0, 0, false), 0);
    }

    /** page: "Throws IllegalStateException if there are 8 pages" */
    private static void refusesTheNinthPage() {
        HopRules x = eightPages();
        Due.state("at the top", () -> x.page(0, -1, 0));
        Due.state("in the first", () -> x.page(0, 0, 0));
        Due.state("in the last", () -> x.page(0, 7, 4));
        Due.bounds("none came of it", () -> x.request(8, 0, 0, 0, 0, false));
    }

    /** Each page at https://a/ in the one before. */
    private static HopRules eightPages() {
        HopRules x = new HopRules();
        Told.address(x, "https://a/");
        for (int parent = -1; parent < 7; parent++) {
            x.page(0, parent, 0);
        }
        return x;
    }

    /** page: "Throws IndexOutOfBoundsException if there is no such address [...]" */
    private static void refusesAddresses() {
        Due.bounds("0 without addresses", () -> new HopRules().page(0, -1, 0));
        HopRules x = Told.fullOfAddresses();
        for (int address : new int[] {Integer.MIN_VALUE, -1, 24, Integer.MAX_VALUE}) {
            Due.bounds("address " + address, () -> x.page(address, -1, 0));
        }
        Due.is("the first", x.page(0, -1, 0), 0);
        Due.is("the last", x.page(23, -1, 0), 1);
    }

    /** page: "[...] or parent is neither -1 nor a page" */
    private static void refusesParents() {
        HopRules x = new HopRules();
        Told.address(x, "https://a/");
        Due.bounds("0 without pages", () -> x.page(0, 0, 0));
        Due.is("-1 without pages", x.page(0, -1, 0), 0);
        for (int parent : new int[] {Integer.MIN_VALUE, -2, 1, 7, 8, Integer.MAX_VALUE}) {
            Due.bounds("parent " + parent, () -> x.page(0, parent, 0));
        }
        Due.is("0 with one page", x.page(0, 0, 0), 1);
        HopRules full = eightPages();
        Due.state("7 with all pages is one", () -> full.page(0, 7, 0));
        Due.bounds("8 with all pages is none", () -> full.page(0, 8, 0));
    }

    /** "`policy`: 0 to 4" */
    private static void takesPoliciesFrom0To4() {
        HopRules x = new HopRules();
        Told.address(x, "https://a/");
        for (int policy : new int[] {Integer.MIN_VALUE, -1, 5, Integer.MAX_VALUE}) {
            Due.argument("policy " + policy, () -> x.page(0, -1, policy));
        }
        Due.is("the least", x.page(0, -1, 0), 0);
        Due.is("the greatest", x.page(0, -1, 4), 1);
        x.request(0, 0, 0, 0, 0, false);
        x.request(1, 0, 0, 0, 0, false);
        Due.is("the least refers nothing", x.hop(0, 0), 0);
        Due.is("the greatest refers all", x.hop(1, 0), 2);
    }

    /** "Its top page is itself or that of its parent." */
    private static void findsTheTopPageFromAnyDepth() {
        HopRules x = new HopRules();
        Told.addresses(x, "https://a/", "https://b/", "https://c/");
        x.page(0, -1, 0);
        for (int parent = 0; parent < 6; parent++) {
            x.page(1, parent, 0);
        }
        x.page(1, -1, 0);
        for (int page = 0; page < 7; page++) {
            x.request(page, 2, 0, 0, 0, false);
            Due.is("the partition of the page " + page, x.count(0), 1);
        }
        x.request(7, 2, 0, 0, 0, false);
        Due.is("the partition of another top page", x.count(0), 2);
    }

    /** Whether a page at the address 0 is foreign there: its strict cookie is not sent. */
    private static boolean isForeign(HopRules x, int page) {
        x.setsCookie(0, 1, 1, -1, 0, 8, 0);
        int top = x.page(0, -1, 0);
        x.request(top, 0, 0, 0, 2, false);
        x.request(page, 0, 0, 0, 2, false);
        return Due.sent(x, 1, 0).isEmpty();
    }

    /** "It is foreign if a page in which it is, up to the top page, has an address of another site than its own." */
    private static void isForeignByAnyPageAbove() {
        for (int other = -1; other < 7; other++) {
            for (int page = 0; page < 7; page++) {
                HopRules x = new HopRules();
                Told.addresses(x, "https://a/", "https://b/");
                for (int i = 0; i < 7; i++) {
                    x.page(i == other && i != page ? 1 : 0, i - 1, 0);
                }
                String what = "page " + page + " with another site at " + other;
                Due.is(what, isForeign(x, page), other >= 0 && other < page);
            }
        }
    }

    /** The same sentence: a top page is in none, and pages of the same site do not count. */
    private static void isNotForeignByItself() {
        HopRules x = new HopRules();
        Told.addresses(x, "https://b.a/", "https://c.a:8/", "http://b.a/");
        Due.is("a top page", isForeign(x, x.page(0, -1, 0)), false);
        HopRules y = new HopRules();
        Told.addresses(y, "https://b.a/", "https://c.a:8/", "http://b.a/");
        Due.is("the same site", isForeign(y, y.page(0, y.page(1, -1, 0), 0)), false);
        HopRules z = new HopRules();
        Told.addresses(z, "https://b.a/", "https://c.a:8/", "http://b.a/");
        Due.is("another scheme", isForeign(z, z.page(0, z.page(2, -1, 0), 0)), true);
    }

    /** The same sentence: a site is what it is at the request. */
    private static void isForeignBySitesAsTheyAreNow() {
        HopRules x = new HopRules();
        Told.addresses(x, "https://b.a/", "https://c.a/");
        int page = x.page(0, x.page(1, -1, 0), 0);
        x.toggleSuffix(0);
        Due.is("a suffix since then", isForeign(x, page), true);
        HopRules y = new HopRules();
        Told.addresses(y, "https://b.a/", "https://c.a/");
        y.toggleSuffix(0);
        page = y.page(0, y.page(1, -1, 0), 0);
        y.toggleSuffix(0);
        Due.is("no suffix any more", isForeign(y, page), false);
    }

    /** "`ticks`: 1 to 1000" */
    private static void passesFrom1To1000() {
        HopRules x = new HopRules();
        for (int ticks : new int[] {Integer.MIN_VALUE, -1, 0, 1001, Integer.MAX_VALUE}) {
            Due.argument("ticks " + ticks, () -> x.pass(ticks));
        }
        Due.is("the least", x.pass(1), 1);
        Due.is("the greatest", x.pass(1000), 1001);
    }

    /** "Returns the tick then." */
    private static void addsTicks() {
        HopRules x = new HopRules();
        for (int times = 1; times < 512; times++) {
            Due.is("ticks", x.pass(1000), 1000 * times);
        }
        Due.is("the last call", x.pass(1000), 512000);
    }
}
