/** Tells hosts and addresses by their texts, so that a test can be read. */
final class Told {
    private Told() {
    }

    /** The number of the host with this text, which is told with all hosts above it. */
    static int host(HopRules x, String text) {
        int dot = text.indexOf('.');
        int under = dot < 0 ? -1 : host(x, text.substring(dot + 1));
        return x.host(under, label(dot < 0 ? text : text.substring(0, dot)), false);
    }

    private static int label(String letters) {
        int last = letters.charAt(letters.length() - 1) - 'a';
        return letters.length() == 1 ? last : 26 + 26 * (letters.charAt(0) - 'a') + last;
    }

    /** The number of the address with this text, which is told with its hosts. */
    static int address(HopRules x, String text) {
        String[] parts = text.split("/", 4);
        int colon = parts[2].indexOf(':');
        int host = host(x, colon < 0 ? parts[2] : parts[2].substring(0, colon));
        int port = colon < 0 ? 0 : Integer.parseInt(parts[2].substring(colon + 1));
        return x.address(parts[0].equals("https:") ? 1 : 0, host, port, path(parts[3]));
    }

    /** Tells addresses, which are numbered from 0 if they are the first ones and no two are the same. */
    static void addresses(HopRules x, String... texts) {
        for (String text : texts) {
            address(x, text);
        }
    }

    private static int path(String segments) {
        String digits = segments.replace("/", "");
        return digits.isEmpty() ? 0 : Integer.parseInt(digits);
    }

    /** A top page at the address with this text. */
    static int page(HopRules x, String text) {
        return x.page(address(x, text), -1, 0);
    }

    /** Tells the browser 16 hosts and 24 addresses: all that there may be. The last host lies under 3 others. */
    static HopRules fullOfAddresses() {
        HopRules x = new HopRules();
        for (int label = 0; label < 12; label++) {
            x.host(-1, label, false);
        }
        for (int under = 11; under < 15; under++) {
            x.host(under == 11 ? -1 : under, 700, false);
        }
        for (int i = 0; i < 24; i++) {
            x.address(i < 16 ? 1 : 0, i % 16, 0, 0);
        }
        return x;
    }
}
