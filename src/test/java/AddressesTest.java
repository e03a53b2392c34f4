/** Promises 5 to 7: address, resolve, text. */
public final class AddressesTest {
    public static void main(String[] args) {
        numbersAddresses();
        refusesAddresses();
        limitsAddresses();
        resolves();
        refusesReferences();
        limitsResolved();
        writesTexts();
        refusesPlaces();
        Due.end();
    }

    private static HopRules withHosts() {
        HopRules x = new HopRules();
        x.host(-1, 0, false);
        x.host(0, 27, true);
        return x;
    }

    private static void numbersAddresses() {
        HopRules x = withHosts();
        Due.is("first", x.address(0, 0, 0, 0), 0);
        Due.is("other scheme", x.address(1, 0, 0, 0), 1);
        Due.is("other host", x.address(0, 1, 0, 0), 2);
        Due.is("other port", x.address(0, 0, 80, 0), 3);
        Due.is("other path", x.address(0, 0, 0, 1), 4);
        Due.is("first again", x.address(0, 0, 0, 0), 0);
        Due.is("port again", x.address(0, 0, 80, 0), 3);
        Due.is("path again", x.address(0, 0, 0, 1), 4);
        Due.is("last port and path", x.address(0, 0, 9999, 999), 5);
    }

    private static void refusesAddresses() {
        HopRules x = withHosts();
        Due.bounds("host 2", () -> x.address(0, 2, 0, 0));
        Due.bounds("host -1", () -> x.address(0, -1, 0, 0));
        Due.bounds("host ahead of the rest", () -> x.address(2, 2, -1, 10));
        Due.argument("scheme 2", () -> x.address(2, 0, 0, 0));
        Due.argument("scheme -1", () -> x.address(-1, 0, 0, 0));
        Due.argument("port -1", () -> x.address(0, 0, -1, 0));
        Due.argument("port 10000", () -> x.address(0, 0, 10000, 0));
        int[] paths = {-1, 10, 100, 101, 110, 120, 200, 1000, 1111, Integer.MAX_VALUE, Integer.MIN_VALUE};
        for (int path : paths) {
            Due.argument("path " + path, () -> x.address(0, 0, 0, path));
        }
        Due.is("none came of it", x.address(0, 0, 0, 0), 0);
    }

    private static void limitsAddresses() {
        HopRules x = withHosts();
        for (int i = 0; i < 24; i++) {
            Due.is("address " + i, x.address(0, 0, i, 0), i);
        }
        Due.state("25th address", () -> x.address(0, 0, 24, 0));
        Due.bounds("host ahead of the limit", () -> x.address(0, 2, 24, 0));
        Due.argument("path ahead of the limit", () -> x.address(0, 0, 24, 10));
        Due.is("one that there is", x.address(0, 0, 7, 0), 7);
        Due.bounds("none more", () -> x.text(24, 0));
    }

    private static void resolves() {
        HopRules x = withHosts();
        x.address(1, 1, 77, 123);
        resolve(x, 1, "/1/2");
        resolve(x, 10, "/1");
        resolve(x, 100, "/");
        resolve(x, 1000, "/");
        resolve(x, 14, "/1/2/4");
        resolve(x, 104, "/1/4");
        resolve(x, 1040, "/1");
        resolve(x, 1045, "/1/4/5");
        resolve(x, 10045, "/4/5");
        resolve(x, 2, "/");
        resolve(x, 20, "/");
        resolve(x, 29, "/9");
        resolve(x, 2999, "/9/9/9");
        resolve(x, 20000, "/");
        resolve(x, 20001, "/1");
        resolve(x, 27890, "/7/8");
        resolve(x, 14500, "/1/2");
        resolve(x, 13, "/1/2/3");
        Due.is("the address itself", x.resolve(0, 13), 0);
        int root = x.resolve(0, 2);
        Due.is("last segment of none", x.resolve(root, 1), root);
        Due.is("known", x.resolve(root, 10), root);
        Due.is("of the root", Due.text(x, x.resolve(root, 15)), "https://ab.a:77/5");
    }

    private static void resolve(HopRules x, int reference, String path) {
        Due.is("123 by " + reference, Due.text(x, x.resolve(0, reference)), "https://ab.a:77" + path);
    }

    private static void refusesReferences() {
        HopRules x = withHosts();
        Due.bounds("no address", () -> x.resolve(0, 1));
        x.address(0, 0, 0, 12);
        Due.bounds("address -1", () -> x.resolve(-1, 1));
        Due.bounds("address ahead of reference", () -> x.resolve(1, 3));
        int[] references = {0, -1, -2, 3, 9, 30, 99, 300, 999, 3000, 9999, 30000, 99999, 100000, 111111, 200000,
            Integer.MAX_VALUE, Integer.MIN_VALUE};
        for (int reference : references) {
            Due.argument("reference " + reference, () -> x.resolve(0, reference));
        }
        Due.argument("4 segments", () -> x.resolve(0, 1345));
        Due.argument("5 segments", () -> x.resolve(0, 13456));
        Due.argument("4 segments of none", () -> x.resolve(0, 21111));
        Due.is("4 segments on the way", Due.text(x, x.resolve(0, 13450)), "http://a/1/3/4");
        Due.bounds("one address came of it", () -> x.text(2, 0));
    }

    private static void limitsResolved() {
        HopRules x = withHosts();
        x.address(0, 0, 0, 1);
        for (int i = 1; i < 24; i++) {
            x.address(0, 0, i, 0);
        }
        Due.state("25th address", () -> x.resolve(0, 2));
        Due.argument("segments ahead of the limit", () -> x.resolve(0, 21111));
        Due.argument("reference ahead of the limit", () -> x.resolve(0, 3));
        Due.bounds("address ahead of the limit", () -> x.resolve(24, 2));
        Due.is("one that there is", x.resolve(0, 21), 0);
    }

    private static void writesTexts() {
        HopRules x = new HopRules();
        x.host(-1, 0, false);
        x.host(0, 25, false);
        x.host(1, 26, false);
        x.host(2, 701, true);
        x.host(-1, 26 + 26 * 3 + 7, false);
        text(x, 0, 0, 0, 0, "http://a/");
        text(x, 1, 1, 0, 1, "https://z.a/1");
        text(x, 0, 2, 1, 12, "http://aa.z.a:1/1/2");
        text(x, 1, 3, 9999, 987, "https://zz.aa.z.a:9999/9/8/7");
        text(x, 0, 4, 80, 0, "http://dh:80/");
        text(x, 1, 4, 443, 0, "https://dh:443/");
    }

    private static void text(HopRules x, int scheme, int host, int port, int path, String due) {
        Due.is("text", Due.text(x, x.address(scheme, host, port, path)), due);
    }

    private static void refusesPlaces() {
        HopRules x = withHosts();
        Due.bounds("no address", () -> x.text(0, 0));
        x.address(0, 0, 0, 0);
        Due.is("last character", x.text(0, 8), '/');
        Due.bounds("behind the last", () -> x.text(0, 9));
        Due.bounds("place -1", () -> x.text(0, -1));
        Due.bounds("address -1", () -> x.text(-1, 0));
        Due.bounds("address 1", () -> x.text(1, 0));
    }
}
