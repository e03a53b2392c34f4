/** Promises 1 to 4: a new object, host, toggleSuffix, site. */
public final class HostsTest {
    public static void main(String[] args) {
        newObject();
        numbersHosts();
        foldsCapitals();
        refusesHosts();
        limitsHosts();
        togglesSuffixes();
        findsSites();
        Due.end();
    }

    private static void newObject() {
        HopRules x = new HopRules();
        Due.bounds("new: host 0", () -> x.site(0));
        Due.bounds("new: address 0", () -> x.text(0, 0));
        Due.is("new: host", x.host(-1, 0, false), 0);
        Due.is("new: address", x.address(0, 0, 0, 0), 0);
        Due.bounds("new: page 0", () -> x.request(0, 0, 0, 0, 0, false));
        Due.bounds("new: request 0", () -> x.hops(0));
        Due.bounds("new: cookie 0", () -> x.cookie(0));
        Due.is("new: cookies", x.cookies(), 0);
        for (int what = 0; what < 3; what++) {
            Due.is("new: count " + what, x.count(what), 0);
        }
        Due.is("new: tick", x.pass(1), 1);
        Due.is("new: not blocking", x.toggleBlocking(), true);
    }

    private static void numbersHosts() {
        HopRules x = new HopRules();
        Due.is("first", x.host(-1, 0, false), 0);
        Due.is("second", x.host(-1, 1, false), 1);
        Due.is("below", x.host(0, 1, false), 2);
        Due.is("same label below another", x.host(1, 1, false), 3);
        Due.is("known at the top", x.host(-1, 1, false), 1);
        Due.is("known below", x.host(0, 1, false), 2);
        Due.is("first label of two letters", x.host(-1, 26, false), 4);
        Due.is("last label", x.host(-1, 701, false), 5);
    }

    private static void foldsCapitals() {
        HopRules x = new HopRules();
        Due.is("capital", x.host(-1, 3, true), 0);
        Due.is("small", x.host(-1, 3, false), 0);
        Due.is("capital again", x.host(-1, 3, true), 0);
        x.address(0, 0, 0, 0);
        Due.is("text of a capital", Due.text(x, 0), "http://d/");
    }

    private static void refusesHosts() {
        HopRules x = new HopRules();
        Due.bounds("under 0", () -> x.host(0, 0, false));
        Due.bounds("under -2", () -> x.host(-2, 0, false));
        Due.bounds("under and label", () -> x.host(-2, 702, false));
        Due.argument("label -1", () -> x.host(-1, -1, false));
        Due.argument("label 702", () -> x.host(-1, 702, true));
        Due.argument("label far above", () -> x.host(-1, Integer.MAX_VALUE, true));
        Due.bounds("no host came of it", () -> x.site(0));
        x.host(-1, 0, false);
        x.host(0, 0, false);
        x.host(1, 0, false);
        Due.is("under 3 others", x.host(2, 0, false), 3);
        Due.state("under 4 others", () -> x.host(3, 0, false));
        Due.argument("label ahead of depth", () -> x.host(3, 702, false));
        Due.bounds("no host came of the depth", () -> x.site(4));
    }

    private static void limitsHosts() {
        HopRules x = new HopRules();
        for (int i = 0; i < 16; i++) {
            Due.is("host " + i, x.host(-1, i, false), i);
        }
        Due.state("17th host", () -> x.host(-1, 16, false));
        Due.state("17th host below", () -> x.host(0, 0, false));
        Due.bounds("unknown host ahead of the limit", () -> x.host(16, 0, false));
        Due.argument("label ahead of the limit", () -> x.host(-1, 702, false));
        Due.is("one that there is", x.host(-1, 7, false), 7);
        Due.bounds("none more", () -> x.site(16));
    }

    private static void togglesSuffixes() {
        HopRules x = new HopRules();
        Due.bounds("no host", () -> x.toggleSuffix(0));
        x.host(-1, 0, false);
        Due.bounds("host -1", () -> x.toggleSuffix(-1));
        Due.bounds("host 1", () -> x.toggleSuffix(1));
        Due.is("on", x.toggleSuffix(0), true);
        Due.is("off", x.toggleSuffix(0), false);
        Due.is("on again", x.toggleSuffix(0), true);
    }

    private static void findsSites() {
        HopRules x = new HopRules();
        x.host(-1, 0, false);
        x.host(0, 0, false);
        x.host(1, 0, false);
        x.host(2, 0, false);
        x.host(1, 1, false);
        x.host(-1, 1, false);
        Due.bounds("site of -1", () -> x.site(-1));
        Due.bounds("site of 6", () -> x.site(6));
        sites(x, "no suffix", 0, 0, 0, 0, 0, 5);
        x.toggleSuffix(0);
        sites(x, "0", 0, 1, 1, 1, 1, 5);
        x.toggleSuffix(2);
        sites(x, "0 and 2", 0, 1, 2, 3, 1, 5);
        x.toggleSuffix(0);
        sites(x, "2", 0, 0, 2, 3, 0, 5);
        x.toggleSuffix(3);
        sites(x, "2 and 3", 0, 0, 2, 3, 0, 5);
        x.toggleSuffix(2);
        sites(x, "3", 0, 0, 0, 3, 0, 5);
        x.toggleSuffix(3);
        x.toggleSuffix(1);
        sites(x, "1", 0, 1, 2, 2, 4, 5);
    }

    private static void sites(HopRules x, String suffixes, int... due) {
        for (int host = 0; host < due.length; host++) {
            Due.is("suffixes " + suffixes + ": site of " + host, x.site(host), due[host]);
        }
    }
}
