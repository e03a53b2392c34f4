/** Promises 12 and 14: page, pass. */
public final class PagesTest {
    public static void main(String[] args) {
        numbersPages();
        refusesPages();
        limitsPages();
        findsForeignPages();
        findsTopPages();
        passesTicks();
        Due.end();
    }

    private static HopRules withAddresses(int hosts) {
        HopRules x = new HopRules();
        for (int host = 0; host < hosts; host++) {
            x.host(-1, host, false);
            x.address(1, host, 0, 0);
        }
        return x;
    }

    private static void numbersPages() {
        HopRules x = withAddresses(2);
        Due.is("first", x.page(0, -1, 0), 0);
        Due.is("the same again is another", x.page(0, -1, 0), 1);
        Due.is("in it", x.page(1, 0, 4), 2);
        Due.is("in that", x.page(0, 2, 4), 3);
    }

    private static void refusesPages() {
        HopRules x = withAddresses(1);
        Due.bounds("address 1", () -> x.page(1, -1, 0));
        Due.bounds("address -1", () -> x.page(-1, -1, 0));
        Due.bounds("parent 0", () -> x.page(0, 0, 0));
        Due.bounds("parent -2", () -> x.page(0, -2, 0));
        Due.bounds("parent ahead of policy", () -> x.page(0, -2, 5));
        Due.argument("policy 5", () -> x.page(0, -1, 5));
        Due.argument("policy -1", () -> x.page(0, -1, -1));
        Due.is("none came of it", x.page(0, -1, 0), 0);
    }

    private static void limitsPages() {
        HopRules x = withAddresses(1);
        for (int i = 0; i < 8; i++) {
            Due.is("page " + i, x.page(0, i - 1, 0), i);
        }
        Due.state("9th page", () -> x.page(0, -1, 0));
        Due.bounds("address ahead of the limit", () -> x.page(1, -1, 0));
        Due.bounds("parent ahead of the limit", () -> x.page(0, 8, 0));
        Due.argument("policy ahead of the limit", () -> x.page(0, -1, 5));
        Due.bounds("none more", () -> x.request(8, 0, 0, 0, 0, false));
    }

    /** A strict cookie is set from a page at its own address only if the page is not foreign. */
    private static void findsForeignPages() {
        HopRules x = withAddresses(2);
        int top = x.page(0, -1, 0);
        int other = x.page(1, top, 0);
        int inner = x.page(0, other, 0);
        int near = x.page(0, top, 0);
        strict(x, "top", top, 0, true);
        strict(x, "other site", other, 1, false);
        strict(x, "another site between", inner, 0, false);
        strict(x, "same site", near, 0, true);
        x.host(0, 0, false);
        x.address(1, 2, 0, 0);
        int below = x.page(2, top, 0);
        strict(x, "below the site", below, 2, true);
        x.toggleSuffix(0);
        strict(x, "not below it any more", below, 2, false);
        x.address(0, 0, 0, 0);
        int plain = x.page(3, top, 0);
        strict(x, "another scheme", plain, 3, false);
    }

    private static void strict(HopRules x, String what, int page, int address, boolean due) {
        x.setsCookie(address, 1, 1, -1, 0, 8, 0);
        x.request(page, address, 0, 1, 2, false);
        Due.is(what + ": set", x.cookies() == 1, due);
        x.setsCookie(address, 1, 1, -1, 0, 8, -1);
        x.request(page, address, 0, 1, 2, false);
        Due.is(what + ": gone", x.cookies(), 0);
        x.setsCookie(address, 1, -1, -1, 0, 0, 0);
    }

    /** The partition is that of the top page, of its site and not of its address. */
    private static void findsTopPages() {
        HopRules x = withAddresses(3);
        int top = x.page(0, -1, 0);
        int middle = x.page(1, top, 0);
        int inner = x.page(2, middle, 0);
        x.setsCookie(2, 1, 1, -1, 0, 3, 0);
        x.request(inner, 2, 0, 1, 2, false);
        x.request(top, 2, 0, 1, 2, false);
        Due.is("partition of the top page", Due.sent(x, 1, 0), "1001,");
        int alone = x.page(2, -1, 0);
        x.request(alone, 2, 0, 1, 2, false);
        Due.is("partition of another top page", Due.sent(x, 2, 0), "");
        Due.is("one in each", Due.cookies(x), "50201001,50201001,");
    }

    private static void passesTicks() {
        HopRules x = new HopRules();
        Due.argument("0", () -> x.pass(0));
        Due.argument("-1", () -> x.pass(-1));
        Due.argument("1001", () -> x.pass(1001));
        Due.is("1", x.pass(1), 1);
        Due.is("1000", x.pass(1000), 1001);
        Due.argument("1001 again", () -> x.pass(1001));
        Due.is("3", x.pass(3), 1004);
    }
}
