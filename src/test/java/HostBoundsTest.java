/**
 * The boundary cases of "Hosts, addresses and sites" and of the promises 1 to 4, a test for each sentence,
 * which is quoted ahead of it.
 */
public final class HostBoundsTest {
    public static void main(String[] args) {
        beginsEmpty();
        numbersSixteenHosts();
        refusesTheSeventeenthHost();
        answersWithTheHostThatThereIs();
        writesEveryLabel();
        refusesLabels();
        foldsCapitals();
        tellsHostsByTheOneAbove();
        writesTheHostAbove();
        liesUnderThreeAtMost();
        liesUnderAHostThatThereIs();
        togglesTheFirstAndTheLast();
        refusesToToggle();
        answersSitesOfTheFirstAndTheLast();
        takesTheTopWithoutSuffix();
        takesTheSuffixItself();
        takesTheOneUnderTheSuffix();
        takesTheDeepestSuffix();
        takesNoSuffixBelow();
        Due.end();
    }

    /** "Creates a browser at the tick 0, without hosts, addresses, pages, cookies and connections [...]" */
    private static void beginsEmpty() {
        HopRules x = new HopRules();
        Due.bounds("no host", () -> x.site(0));
        Due.bounds("no host to toggle", () -> x.toggleSuffix(0));
        Due.bounds("no host for an address", () -> x.address(0, 0, 0, 0));
        Due.bounds("no address", () -> x.text(0, 0));
        Due.bounds("no address for a page", () -> x.page(0, -1, 0));
        Due.is("no cookies", x.cookies(), 0);
        Due.bounds("no cookie", () -> x.cookie(0));
        Due.is("opened", x.count(0), 0);
        Due.is("open", x.count(1), 0);
        Due.is("preflights", x.count(2), 0);
        Due.bounds("no request", () -> x.judged(0));
        Told.address(x, "http://a/");
        Due.bounds("no page", () -> x.request(0, 0, 0, 0, 0, false));
        Due.is("the tick 0", x.pass(1), 1);
        Due.is("strangers are not blocked", x.toggleBlocking(), true);
    }

    /** "Hosts are numbered from 0, at most 16." */
    private static void numbersSixteenHosts() {
        HopRules x = new HopRules();
        for (int i = 0; i < 16; i++) {
            Due.is("host " + i, x.host(i % 4 == 0 ? -1 : i - 1, i, false), i);
        }
        Due.is("the last one is there", x.site(15), 12);
    }

    /** "Throws IllegalStateException if there are 16 hosts [...]" */
    private static void refusesTheSeventeenthHost() {
        HopRules x = Told.fullOfAddresses();
        Due.state("at the top", () -> x.host(-1, 12, false));
        Due.state("in capital letters", () -> x.host(-1, 12, true));
        Due.state("under the first", () -> x.host(0, 0, false));
        Due.state("under the last", () -> x.host(15, 0, false));
        Due.bounds("none came of it", () -> x.site(16));
    }

    /** "[...] that of the host that there is, if it is the same." */
    private static void answersWithTheHostThatThereIs() {
        HopRules x = Told.fullOfAddresses();
        Due.is("the first", x.host(-1, 0, false), 0);
        Due.is("the first in capital letters", x.host(-1, 0, true), 0);
        Due.is("the last, which lies under 3", x.host(14, 700, false), 15);
    }

    /**
     * "A label is told by a number: 0 to 25 for one letter [...], and 26 + 26 * x + y for the letters x and y [...]"
     */
    private static void writesEveryLabel() {
        for (int label = 0; label < 702; label++) {
            HopRules x = new HopRules();
            x.address(0, x.host(-1, label, false), 0, 0);
            int pair = label - 26;
            String first = pair < 0 ? "" : String.valueOf((char) ('a' + pair / 26));
            char last = (char) ('a' + (pair < 0 ? label : pair % 26));
            Due.is("label " + label, Due.text(x, 0), "http://" + first + last + "/");
        }
    }

    /** "[...] up to 701", "Throws IllegalArgumentException if label is out of range" */
    private static void refusesLabels() {
        HopRules x = new HopRules();
        for (int label : new int[] {Integer.MIN_VALUE, -26, -1, 702, 703, 727, Integer.MAX_VALUE}) {
            Due.argument("label " + label, () -> x.host(-1, label, false));
            Due.argument("label in capital letters " + label, () -> x.host(-1, label, true));
        }
        Due.is("none came of it, and the least is allowed", x.host(-1, 0, false), 0);
        Due.is("the greatest is allowed", x.host(-1, 701, false), 1);
    }

    /** "[...] capital letters are folded to these." */
    private static void foldsCapitals() {
        for (int label : new int[] {0, 25, 26, 51, 52, 701}) {
            HopRules x = new HopRules();
            Due.is("capital", x.host(-1, label, true), 0);
            Due.is("small", x.host(-1, label, false), 0);
            Due.is("small, below", x.host(0, label, false), 1);
            Due.is("capital, below", x.host(0, label, true), 1);
            Due.bounds("no more than these", () -> x.site(2));
        }
    }

    /** "No two hosts under the same one have the same label." */
    private static void tellsHostsByTheOneAbove() {
        HopRules x = new HopRules();
        Due.is("a", x.host(-1, 0, false), 0);
        Due.is("a.a", x.host(0, 0, false), 1);
        Due.is("b", x.host(-1, 1, false), 2);
        Due.is("a.b", x.host(2, 0, false), 3);
        Due.is("a again", x.host(-1, 0, false), 0);
        Due.is("a.a again", x.host(0, 0, false), 1);
        Due.is("a.b again", x.host(2, 0, false), 3);
    }

    /** "The text of a host is its label, and, if it lies under another one, a dot and the text of that one." */
    private static void writesTheHostAbove() {
        HopRules x = new HopRules();
        Told.addresses(x, "http://c/", "http://bd.c/", "http://a.bd.c/", "http://zz.a.bd.c/");
        Due.is("at the top", Due.text(x, 0), "http://c/");
        Due.is("under one", Due.text(x, 1), "http://bd.c/");
        Due.is("under two", Due.text(x, 2), "http://a.bd.c/");
        Due.is("under three", Due.text(x, 3), "http://zz.a.bd.c/");
    }

    /** "Throws IllegalStateException if [...] it would lie under more than 3 others" */
    private static void liesUnderThreeAtMost() {
        HopRules x = new HopRules();
        Due.is("under none", x.host(-1, 0, false), 0);
        Due.is("under one", x.host(0, 0, false), 1);
        Due.is("under two", x.host(1, 0, false), 2);
        Due.is("under three", x.host(2, 0, false), 3);
        Due.state("under four", () -> x.host(3, 0, false));
        Due.state("under four, with another label", () -> x.host(3, 701, true));
        Due.is("another under three", x.host(2, 1, false), 4);
    }

    /** "Throws IndexOutOfBoundsException if under is neither -1 nor a host" */
    private static void liesUnderAHostThatThereIs() {
        HopRules x = new HopRules();
        Due.bounds("0 without hosts", () -> x.host(0, 0, false));
        Due.is("-1 without hosts", x.host(-1, 0, false), 0);
        for (int under : new int[] {Integer.MIN_VALUE, -2, 1, 15, 16, Integer.MAX_VALUE}) {
            Due.bounds("under " + under, () -> x.host(under, 0, false));
        }
        Due.is("0 with one host", x.host(0, 0, false), 1);
        HopRules full = Told.fullOfAddresses();
        Due.state("15 with all hosts is one", () -> full.host(15, 0, false));
        Due.bounds("16 with all hosts is none", () -> full.host(16, 0, false));
    }

    /** "Makes a host a suffix, or one no more." "Returns true if it is one then." */
    private static void togglesTheFirstAndTheLast() {
        HopRules x = Told.fullOfAddresses();
        for (int host = 0; host < 16; host += 15) {
            Due.is("it is one", x.toggleSuffix(host), true);
            Due.is("it is none", x.toggleSuffix(host), false);
            Due.is("it is one again", x.toggleSuffix(host), true);
        }
    }

    /** toggleSuffix: "Throws IndexOutOfBoundsException if there is no such host" */
    private static void refusesToToggle() {
        HopRules x = Told.fullOfAddresses();
        for (int host : new int[] {Integer.MIN_VALUE, -1, 16, Integer.MAX_VALUE}) {
            Due.bounds("suffix " + host, () -> x.toggleSuffix(host));
            Due.bounds("site " + host, () -> x.site(host));
        }
    }

    /** site: "Throws IndexOutOfBoundsException if there is no such host" */
    private static void answersSitesOfTheFirstAndTheLast() {
        HopRules x = new HopRules();
        Due.bounds("0 without hosts", () -> x.site(0));
        x.host(-1, 0, false);
        Due.is("0 with one host", x.site(0), 0);
        Due.bounds("1 with one host", () -> x.site(1));
        Due.is("15 with all hosts", Told.fullOfAddresses().site(15), 12);
    }

    /** a, b.a, c.b.a, d.c.b.a, with the numbers 0 to 3. */
    private static HopRules ladder() {
        HopRules x = new HopRules();
        Told.host(x, "d.c.b.a");
        return x;
    }

    private static void sites(String what, HopRules x, int... due) {
        for (int host = 0; host < due.length; host++) {
            Due.is(what + ": site of " + host, x.site(host), due[host]);
        }
    }

    /** "[...] if there is none, it is the one at the top [...]" */
    private static void takesTheTopWithoutSuffix() {
        HopRules x = ladder();
        sites("no suffix", x, 0, 0, 0, 0);
        x.toggleSuffix(2);
        x.toggleSuffix(2);
        sites("no suffix any more", x, 0, 0, 0, 0);
    }

    /** "[...] if it is the host itself, it is that [...]" */
    private static void takesTheSuffixItself() {
        for (int host = 0; host < 4; host++) {
            HopRules x = ladder();
            x.toggleSuffix(host);
            Due.is("suffix " + host, x.site(host), host);
        }
    }

    /** "[...] otherwise it is the one of these that lies right under that suffix." */
    private static void takesTheOneUnderTheSuffix() {
        HopRules x = ladder();
        x.toggleSuffix(0);
        sites("at the top", x, 0, 1, 1, 1);
        HopRules y = ladder();
        y.toggleSuffix(2);
        sites("under two", y, 0, 0, 2, 3);
        Told.host(y, "e.c.b.a");
        Due.is("beside", y.site(4), 4);
    }

    /** "let the deepest suffix be the one [...] farthest from the top that is a suffix" */
    private static void takesTheDeepestSuffix() {
        HopRules x = ladder();
        x.toggleSuffix(0);
        x.toggleSuffix(1);
        sites("the two at the top", x, 0, 1, 2, 2);
        x.toggleSuffix(2);
        sites("three", x, 0, 1, 2, 3);
        x.toggleSuffix(1);
        sites("not the second", x, 0, 1, 2, 3);
        x.toggleSuffix(3);
        sites("the last, too", x, 0, 1, 2, 3);
        x.toggleSuffix(2);
        sites("the first and the last", x, 0, 1, 1, 3);
    }

    /** "[...] of the host and of those that it lies under [...]" */
    private static void takesNoSuffixBelow() {
        HopRules x = ladder();
        x.toggleSuffix(3);
        sites("below", x, 0, 0, 0, 3);
        Told.host(x, "e.b.a");
        x.toggleSuffix(2);
        Due.is("beside", x.site(4), 0);
    }
}
