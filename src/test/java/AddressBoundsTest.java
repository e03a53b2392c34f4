/**
 * The boundary cases of addresses, origins and references and of the promises 5 to 7, a test for each sentence,
 * which is quoted ahead of it.
 */
public final class AddressBoundsTest {
    public static void main(String[] args) {
        numbersTwentyFourAddresses();
        refusesTheTwentyFifthAddress();
        answersWithTheAddressThatThereIs();
        refusesHosts();
        refusesSchemes();
        refusesPorts();
        refusesPaths();
        tellsAddressesAsTheyAreTold();
        writesPorts();
        writesSegments();
        takesZeroForTheUsualPort();
        comparesSchemesAndHosts();
        resolvesEveryReference();
        takesTheLastSegmentIfThereIsOne();
        countsSegmentsAtTheEnd();
        keepsTheOtherParts();
        refusesAddressesToResolve();
        refusesTheTwentyFifthResolved();
        readsTheFirstAndTheLastCharacter();
        refusesCharacters();
        refusesAddressesToRead();
        Due.end();
    }

    /** "Addresses are numbered from 0, at most 24." */
    private static void numbersTwentyFourAddresses() {
        HopRules x = new HopRules();
        x.host(-1, 0, false);
        for (int i = 0; i < 24; i++) {
            Due.is("address " + i, x.address(0, 0, i, 0), i);
        }
        Due.is("the last one is there", Due.text(x, 23), "http://a:23/");
    }

    /** address: "Throws IllegalStateException if there are 24 addresses" */
    private static void refusesTheTwentyFifthAddress() {
        HopRules x = Told.fullOfAddresses();
        Due.state("another port", () -> x.address(0, 0, 1, 0));
        Due.state("another path", () -> x.address(1, 15, 0, 999));
        Due.state("another scheme", () -> x.address(0, 15, 0, 0));
        Due.bounds("none came of it", () -> x.text(24, 0));
    }

    /** "Returns its number; that of the address that there is, if it has the same parts." */
    private static void answersWithTheAddressThatThereIs() {
        HopRules x = Told.fullOfAddresses();
        Due.is("the first", x.address(1, 0, 0, 0), 0);
        Due.is("the last", x.address(0, 7, 0, 0), 23);
    }

    /** address: "Throws IndexOutOfBoundsException if there is no such host" */
    private static void refusesHosts() {
        HopRules x = new HopRules();
        Due.bounds("0 without hosts", () -> x.address(0, 0, 0, 0));
        x.host(-1, 0, false);
        for (int host : new int[] {Integer.MIN_VALUE, -1, 1, Integer.MAX_VALUE}) {
            Due.bounds("host " + host, () -> x.address(0, host, 0, 0));
        }
        Due.is("0 with one host", x.address(0, 0, 0, 0), 0);
        Due.bounds("16 with all hosts", () -> Told.fullOfAddresses().address(0, 16, 0, 0));
        Due.is("15 with all hosts", Told.fullOfAddresses().address(1, 15, 0, 0), 15);
    }

    /** "scheme, http (0) or https (1)" */
    private static void refusesSchemes() {
        HopRules x = new HopRules();
        x.host(-1, 0, false);
        for (int scheme : new int[] {Integer.MIN_VALUE, -1, 2, Integer.MAX_VALUE}) {
            Due.argument("scheme " + scheme, () -> x.address(scheme, 0, 0, 0));
        }
        Due.is("the least", Due.text(x, x.address(0, 0, 0, 0)), "http://a/");
        Due.is("the greatest", Due.text(x, x.address(1, 0, 0, 0)), "https://a/");
    }

    /** "a port, 0 for the usual one of the scheme (80 or 443) or 1 to 9999" */
    private static void refusesPorts() {
        HopRules x = new HopRules();
        x.host(-1, 0, false);
        for (int port : new int[] {Integer.MIN_VALUE, -1, 10000, 65535, Integer.MAX_VALUE}) {
            Due.argument("port " + port, () -> x.address(0, 0, port, 0));
        }
        for (int port : new int[] {0, 1, 9, 10, 99, 100, 999, 1000, 9999}) {
            String due = port == 0 ? "http://a/" : "http://a:" + port + "/";
            Due.is("port " + port, Due.text(x, x.address(0, 0, port, 0)), due);
        }
    }

    /** "a path of up to 3 segments, told by a number whose decimal digits, 1 to 9, are the segments; 0 for none" */
    private static void refusesPaths() {
        for (int path = -20; path < 2300; path++) {
            int told = path;
            HopRules x = new HopRules();
            x.host(-1, 0, false);
            if (path == 0 || String.valueOf(path).matches("[1-9]{1,3}")) {
                Due.is("path " + path, Due.thrownBy(() -> x.address(0, 0, 0, told)), "nothing");
            } else {
                Due.argument("path " + path, () -> x.address(0, 0, 0, told));
                Due.bounds("none came of it", () -> x.text(0, 0));
            }
        }
    }

    /** "No two addresses have the same parts (as they are told)." */
    private static void tellsAddressesAsTheyAreTold() {
        HopRules x = new HopRules();
        x.host(-1, 0, false);
        Due.is("the usual port of http", x.address(0, 0, 0, 0), 0);
        Due.is("80 as it is told", x.address(0, 0, 80, 0), 1);
        Due.is("the usual port of https", x.address(1, 0, 0, 0), 2);
        Due.is("443 as it is told", x.address(1, 0, 443, 0), 3);
        Due.is("0 again", x.address(0, 0, 0, 0), 0);
        Due.is("80 again", x.address(0, 0, 80, 0), 1);
        Due.is("443 again", x.address(1, 0, 443, 0), 3);
    }

    /** "[...] if the port is not 0 a ":" and the port in decimal digits [...]" */
    private static void writesPorts() {
        HopRules x = new HopRules();
        String[] texts = {"http://a/", "http://a:1/", "http://a:80/", "https://a:443/", "https://a:9999/"};
        for (String text : texts) {
            Due.is("port", Due.text(x, Told.address(x, text)), text);
        }
    }

    /** "[...] and for each segment a "/" and its digit, or one "/" if there is none." */
    private static void writesSegments() {
        for (int path = 1; path < 1000; path++) {
            String digits = String.valueOf(path);
            if (digits.indexOf('0') < 0) {
                HopRules x = new HopRules();
                x.address(0, x.host(-1, 0, false), 0, path);
                Due.is("path " + path, Due.text(x, 0), "http://a" + digits.replaceAll("(.)", "/$1"));
            }
        }
        HopRules x = new HopRules();
        Due.is("no path", Due.text(x, Told.address(x, "http://a/")), "http://a/");
    }

    /** Whether an answer that allows the origin of the one address lets a page at the other one. */
    private static void sameOrigin(String one, String other, boolean due) {
        HopRules x = new HopRules();
        int page = Told.page(x, one);
        int asked = Told.address(x, "https://z/9");
        x.allow(asked, Told.address(x, other), false, 0, 0);
        Due.is(one + " and " + other, x.request(page, asked, 0, 1, 0, false) == 0, due);
    }

    /**
     * "Two addresses are of the same origin if their schemes, hosts and ports are the same, where 0 is the usual
     * port."
     */
    private static void takesZeroForTheUsualPort() {
        sameOrigin("http://a/", "http://a:80/", true);
        sameOrigin("http://a:80/1", "http://a/", true);
        sameOrigin("http://a/", "http://a:79/", false);
        sameOrigin("http://a/", "http://a:81/", false);
        sameOrigin("http://a/", "http://a:443/", false);
        sameOrigin("https://a/", "https://a:443/", true);
        sameOrigin("https://a:443/", "https://a/1", true);
        sameOrigin("https://a/", "https://a:442/", false);
        sameOrigin("https://a/", "https://a:444/", false);
        sameOrigin("https://a/", "https://a:80/", false);
        for (int port = 1; port < 5; port++) {
            sameOrigin("http://a:" + port + "/", "http://a:" + port + "/2", true);
            sameOrigin("http://a:" + port + "/", "http://a:" + (port + 1) + "/", false);
        }
        sameOrigin("http://a:9999/", "http://a:9999/1", true);
        sameOrigin("http://a:9999/", "http://a:9998/", false);
        sameOrigin("http://a:9999/", "https://a:1/", false);
    }

    /** The same sentence, by its schemes and hosts. */
    private static void comparesSchemesAndHosts() {
        sameOrigin("https://a/", "http://a:443/", false);
        sameOrigin("http://a/", "https://a:80/", false);
        sameOrigin("https://a/", "https://b/", false);
        sameOrigin("https://a.a/", "https://a/", false);
        sameOrigin("https://a/", "https://a.a/", false);
        sameOrigin("https://a/1/2/3", "https://a/", true);
        for (String host : new String[] {"z", "b", "c", "a.a"}) {
            sameOrigin("https://a:7/", "http://" + host + ":7/", false);
            sameOrigin("http://a:7/", "https://" + host + ":7/", false);
            sameOrigin("https://a:7/", "https://" + host + ":7/", false);
        }
    }

    /** The path that comes of it, told anew by texts. */
    private static String resolved(String path, String reference) {
        StringBuilder all = new StringBuilder(reference.charAt(0) == '1' ? path : "");
        for (int i = 0; i < reference.length(); i++) {
            if (i > 0 && reference.charAt(i) != '0') {
                all.append(reference.charAt(i));
            } else if (all.length() > 0 && (i > 0 || reference.charAt(0) == '1')) {
                all.setLength(all.length() - 1);
            }
        }
        return all.toString();
    }

    private static void resolve(int path, int reference) {
        HopRules x = new HopRules();
        x.address(1, x.host(-1, 0, false), 7, path);
        String what = path + " by " + reference;
        String digits = String.valueOf(reference);
        String due = digits.matches("[12][0-9]{0,4}") ? resolved(path == 0 ? "" : "" + path, digits) : "----";
        if (due.length() > 3) {
            Due.argument(what, () -> x.resolve(0, reference));
            Due.bounds(what + ": none came of it", () -> x.text(1, 0));
        } else {
            String text = due.isEmpty() ? "https://a:7/" : "https://a:7" + due.replaceAll("(.)", "/$1");
            Due.is(what, Due.text(x, x.resolve(0, reference)), text);
        }
    }

    /** "[...] a reference is a number whose first decimal digit is 1 or 2, and up to 4 digits behind it." */
    private static void resolvesEveryReference() {
        for (int reference = -30; reference < 3100; reference++) {
            resolve(0, reference);
            resolve(12, reference);
        }
        int[] far = {9999, 10000, 19999, 20000, 29999, 30000, 99999, 100000, 199999, 200000, 1000000000,
            Integer.MAX_VALUE, Integer.MIN_VALUE};
        for (int reference : far) {
            resolve(123, reference);
        }
        for (int reference = 10000; reference < 30000; reference += 7) {
            resolve(123, reference);
        }
    }

    /**
     * "With 1 it begins with the path of the address without its last segment [...] 0 takes the last segment away, if
     * there is one"
     */
    private static void takesTheLastSegmentIfThereIsOne() {
        HopRules x = new HopRules();
        Told.addresses(x, "http://a/", "http://a/1", "http://a/1/2");
        for (int reference : new int[] {1, 2, 10, 20, 10000, 20000}) {
            Due.is("none by " + reference, x.resolve(0, reference), 0);
            Due.is("one by " + reference, x.resolve(1, reference), 0);
        }
        Due.is("two by 1", x.resolve(2, 1), 1);
        Due.is("two by 10", x.resolve(2, 10), 0);
        Due.is("two by 100", x.resolve(2, 100), 0);
        Due.is("two by 1001", x.resolve(2, 1001), 1);
        Due.is("none by 2001", x.resolve(0, 2001), 1);
    }

    /** "[...] the path would have more than 3 segments at the end" */
    private static void countsSegmentsAtTheEnd() {
        HopRules x = new HopRules();
        Told.addresses(x, "http://a/1/2/3", "http://a/9/9/9", "http://a/1/2/9", "http://a/1/2");
        Due.is("3 of one", x.resolve(0, 19), 2);
        Due.argument("4 of one", () -> x.resolve(0, 199));
        Due.is("3, 4 on the way", x.resolve(0, 1990), 2);
        Due.argument("6", () -> x.resolve(0, 19999));
        Due.argument("4, 5 on the way", () -> x.resolve(0, 19990));
        Due.is("2, 4 on the way", x.resolve(0, 19900), 3);
        Due.is("3 of none", x.resolve(0, 2999), 1);
        Due.is("2 of none, 3 on the way", Due.text(x, x.resolve(0, 29990)), "http://a/9/9");
        Due.argument("4 of none", () -> x.resolve(0, 29999));
    }

    /** "Returns number of the address with the path that comes of it and else the same parts [...]" */
    private static void keepsTheOtherParts() {
        HopRules x = new HopRules();
        Told.addresses(x, "https://b.a:443/1", "https://b.a/2", "http://b.a:443/2", "https://a:443/2");
        int resolved = x.resolve(0, 22);
        Due.is("another address", resolved, 4);
        Due.is("the same parts", Due.text(x, resolved), "https://b.a:443/2");
        Due.is("the one that there is", x.resolve(0, 12), 4);
    }

    /** resolve: "Throws IndexOutOfBoundsException if there is no such address" */
    private static void refusesAddressesToResolve() {
        HopRules x = new HopRules();
        Due.bounds("0 without addresses", () -> x.resolve(0, 1));
        Told.address(x, "http://a/");
        for (int address : new int[] {Integer.MIN_VALUE, -1, 1, 24, Integer.MAX_VALUE}) {
            Due.bounds("address " + address, () -> x.resolve(address, 1));
        }
        HopRules full = Told.fullOfAddresses();
        Due.is("23 with all addresses", full.resolve(23, 2), 23);
        Due.bounds("24 with all addresses", () -> full.resolve(24, 2));
    }

    /** resolve: "Throws IllegalStateException if there are 24 addresses" */
    private static void refusesTheTwentyFifthResolved() {
        HopRules x = Told.fullOfAddresses();
        Due.state("the 25th", () -> x.resolve(0, 29));
        Due.is("one that there is", x.resolve(0, 290), 0);
        Due.bounds("none came of it", () -> x.text(24, 0));
        HopRules y = new HopRules();
        y.host(-1, 0, false);
        for (int port = 0; port < 23; port++) {
            y.address(0, 0, port, 0);
        }
        Due.is("the 24th", y.resolve(0, 29), 23);
        Due.state("one more", () -> y.resolve(0, 28));
    }

    /** "`place`: 0 for the first character" */
    private static void readsTheFirstAndTheLastCharacter() {
        HopRules x = new HopRules();
        Told.addresses(x, "http://a/", "https://zz.zy.zx.zw:9999/9/8/7");
        Due.is("the first", x.text(0, 0), 'h');
        Due.is("the last of the shortest", x.text(0, 8), '/');
        Due.is("the last of the longest", x.text(1, 29), '7');
        Due.is("all of the longest", Due.text(x, 1), "https://zz.zy.zx.zw:9999/9/8/7");
    }

    /** text: "Throws IndexOutOfBoundsException if there is no such [...] character" */
    private static void refusesCharacters() {
        HopRules x = new HopRules();
        Told.addresses(x, "http://a/", "https://zz.zy.zx.zw:9999/9/8/7");
        for (int place : new int[] {Integer.MIN_VALUE, -1, 30, Integer.MAX_VALUE}) {
            Due.bounds("place " + place, () -> x.text(1, place));
        }
        Due.bounds("behind the last of the shortest", () -> x.text(0, 9));
    }

    /** text: "Throws IndexOutOfBoundsException if there is no such address [...]" */
    private static void refusesAddressesToRead() {
        HopRules x = Told.fullOfAddresses();
        for (int address : new int[] {Integer.MIN_VALUE, -1, 24, Integer.MAX_VALUE}) {
            Due.bounds("address " + address, () -> x.text(address, 0));
        }
        Due.is("the first", x.text(0, 4), 's');
        Due.is("the last", x.text(23, 4), ':');
        Due.bounds("0 without addresses", () -> new HopRules().text(0, 0));
    }
}
