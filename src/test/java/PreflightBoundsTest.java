/**
 * The boundary cases of preflights in the promises 9, 13 and 21, a test for each sentence, which is quoted ahead
 * of it.
 */
public final class PreflightBoundsTest {
    public static void main(String[] args) {
        needsOneForEachReason();
        needsOneWithATaint();
        needsOneForTheHeaderThatIsKept();
        keepsItForTheSamePageOrigin();
        keepsItForTheTaint();
        keepsItForTheSameAddress();
        keepsItForTheSameCredentials();
        keepsItForTheSamePartition();
        keepsItUntilItsTimeHasCome();
        keepsItForWhatItAllowed();
        grantsIfTheAnswerLets();
        grantsIfTheOthersAreAllowed();
        keepsNoneWithTheAge0();
        keepsOneInPlaceOfOneForTheSame();
        keepsNoneThatWasRefused();
        leavesTheAnswerToBeAsked();
        usesAConnectionWithoutCredentials();
        usesAConnectionEvenIfItIsRefused();
        Due.end();
    }

    /** https: 0 a, 1 b, 2 c; page 0 at 0; the answers of 1 and 2 allow all, for so many ticks. */
    private static HopRules scene(int age) {
        HopRules x = new HopRules();
        Told.addresses(x, "https://a/", "https://b/", "https://c/");
        x.page(0, -1, 0);
        x.allow(1, -2, false, 3, age);
        x.allow(2, -2, false, 3, age);
        return x;
    }

    private static int put(HopRules x, int page, int address) {
        return x.request(page, address, 2, 1, 0, false);
    }

    /** "In the mode 1, if it is cross, and its method is PUT or it has a header of its own, it needs a preflight" */
    private static void needsOneForEachReason() {
        for (int method = 0; method < 3; method++) {
            for (int header = 0; header < 2; header++) {
                for (int address = 0; address < 2; address++) {
                    HopRules x = scene(0);
                    x.request(0, address, method, 1, 0, header == 1);
                    boolean needs = address == 1 && (method == 2 || header == 1);
                    Due.is("asked: " + method + header + address, x.count(2), needs ? 1 : 0);
                }
            }
        }
        HopRules x = scene(0);
        for (int mode = 0; mode < 3; mode += 2) {
            x.request(0, 1, 0, mode, 2, false);
            x.request(0, 1, 1, mode, 2, false);
        }
        Due.is("free, and to navigate", x.count(2), 0);
    }

    /** The same sentence: it is cross at home, too, if it is tainted. */
    private static void needsOneWithATaint() {
        HopRules x = scene(0);
        x.redirect(1, 0, 4);
        Due.is("not granted at home", put(x, 0, 1), 5);
        Due.is("one each", x.count(2), 2);
        x.allow(0, -3, false, 1, 0);
        Due.is("granted at home", put(x, 0, 1), 0);
        Due.is("one each again", x.count(2), 4);
    }

    /** "(A request that becomes GET by that keeps its header.)" */
    private static void needsOneForTheHeaderThatIsKept() {
        int[][] becomesGet = {{0, 1}, {1, 1}, {2, 1}, {2, 2}};
        for (int[] statusAndMethod : becomesGet) {
            HopRules x = scene(0);
            x.redirect(0, 1, statusAndMethod[0]);
            x.allow(1, -2, false, 2, 0);
            Due.is("with its header", x.request(0, 0, statusAndMethod[1], 1, 0, true), 0);
            Due.is("one for the header", x.count(2), 1);
            Due.is("without a header", x.request(0, 0, statusAndMethod[1], 1, 0, false), 0);
            Due.is("none for GET", x.count(2), 1);
            x.allow(1, -2, false, 1, 0);
            Due.is("headers are not allowed", x.request(0, 0, statusAndMethod[1], 1, 0, true), 5);
        }
    }

    /** "unless one is kept: for the same page origin [...]" */
    private static void keepsItForTheSamePageOrigin() {
        HopRules x = scene(9);
        put(x, 0, 1);
        put(x, 0, 1);
        Due.is("the same page", x.count(2), 1);
        put(x, x.page(Told.address(x, "https://a:443/1"), -1, 4), 1);
        Due.is("a page of the same origin", x.count(2), 1);
        put(x, x.page(Told.address(x, "https://a:444/"), -1, 0), 1);
        Due.is("a page of another one", x.count(2), 2);
    }

    /** "or, if it is tainted, for the taint, whatever the page is" */
    private static void keepsItForTheTaint() {
        HopRules x = scene(9);
        x.allow(1, -2, false, 3, 0);
        x.redirect(1, 2, 4);
        put(x, 0, 1);
        Due.is("one for each hop", x.count(2), 2);
        put(x, x.page(Told.address(x, "https://a:444/"), -1, 0), 1);
        Due.is("the second is kept for another page", x.count(2), 3);
        put(x, 0, 2);
        Due.is("but not without the taint", x.count(2), 4);
        put(x, 0, 2);
        Due.is("kept for both now", x.count(2), 4);
    }

    /** "[...] the same address [...]" */
    private static void keepsItForTheSameAddress() {
        HopRules x = scene(9);
        int other = Told.address(x, "https://b:443/");
        x.allow(other, -2, false, 3, 9);
        put(x, 0, 1);
        put(x, 0, other);
        Due.is("another address of its origin", x.count(2), 2);
        put(x, 0, 1);
        put(x, 0, other);
        Due.is("kept for both", x.count(2), 2);
    }

    /** "[...] the same credentials (always or not) [...]" */
    private static void keepsItForTheSameCredentials() {
        HopRules x = scene(9);
        x.allow(1, 0, true, 3, 9);
        x.request(0, 1, 2, 1, 0, false);
        x.request(0, 1, 2, 1, 1, false);
        Due.is("none, and to the same origin", x.count(2), 1);
        x.request(0, 1, 2, 1, 2, false);
        Due.is("always", x.count(2), 2);
        x.request(0, 1, 2, 1, 2, false);
        x.request(0, 1, 2, 1, 1, false);
        Due.is("kept for both", x.count(2), 2);
    }

    /** "[...] the same partition [...]" */
    private static void keepsItForTheSamePartition() {
        HopRules x = scene(9);
        int inner = x.page(0, x.page(2, -1, 0), 0);
        int near = x.page(0, x.page(0, -1, 0), 0);
        put(x, 0, 1);
        put(x, near, 1);
        Due.is("a page in one of the same site", x.count(2), 1);
        put(x, inner, 1);
        Due.is("a page in one of another site", x.count(2), 2);
        put(x, 0, 1);
        put(x, inner, 1);
        Due.is("kept for both", x.count(2), 2);
        x.allow(1, -2, false, 3, 0);
        x.redirect(1, 0, 4);
        x.allow(0, -3, false, 3, 9);
        put(x, 0, 1);
        Due.is("with the taint", x.count(2), 3);
        put(x, near, 1);
        Due.is("with the taint, of the same site", x.count(2), 3);
        put(x, inner, 1);
        Due.is("with the taint, in another partition", x.count(2), 4);
    }

    /** "[...] as long as its time has not come [...]", "it is kept until so many ticks later" */
    private static void keepsItUntilItsTimeHasCome() {
        for (int age : new int[] {1, 2, 7, 999, 1000}) {
            HopRules x = scene(age);
            put(x, 0, 1);
            put(x, 0, 1);
            Due.is("at once, " + age, x.count(2), 1);
            if (age > 1) {
                x.pass(age - 1);
            }
            put(x, 0, 1);
            Due.is("one tick ahead of its time, " + age, x.count(2), 1);
            x.pass(1);
            put(x, 0, 1);
            Due.is("at its time, " + age, x.count(2), 2);
        }
    }

    /** "and one that allowed PUT, if that is the method, and headers, if it has one." */
    private static void keepsItForWhatItAllowed() {
        // Whether a kept one with these others serves PUT, a header, both, in this order.
        boolean[][] serves = {{true, false, false}, {false, true, false}, {true, true, true}};
        for (int others = 1; others < 4; others++) {
            for (int asked = 0; asked < 3; asked++) {
                HopRules x = scene(0);
                x.allow(1, 0, false, others, 9);
                x.request(0, 1, others == 2 ? 1 : 2, 1, 0, others >= 2);
                Due.is("granted", x.judged(0), 0);
                x.request(0, 1, asked == 1 ? 0 : 2, 1, 0, asked >= 1);
                Due.is(others + " for " + asked, x.count(2), serves[others - 1][asked] ? 1 : 2);
                Due.is(others + " for " + asked + ": end", x.judged(1), serves[others - 1][asked] ? 0 : 5);
            }
        }
    }

    /** "it is granted if the answer of the address lets the request (see 5.)" */
    private static void grantsIfTheAnswerLets() {
        int[] origins = {-1, -2, -3, 0, 1};
        int[][] due = {{5, 5, 5}, {0, 0, 5}, {5, 5, 5}, {0, 0, 0}, {5, 5, 5}};
        for (int i = 0; i < origins.length; i++) {
            HopRules x = scene(0);
            x.allow(1, origins[i], true, 3, 0);
            for (int credentials = 0; credentials < 3; credentials++) {
                int end = x.request(0, 1, 2, 1, credentials, true);
                Due.is("origins " + origins[i] + ", credentials " + credentials, end, due[i][credentials]);
            }
            Due.is("a preflight each", x.count(2), 3);
        }
        HopRules x = scene(0);
        x.allow(1, 0, false, 3, 0);
        Due.is("always, and no credentials", x.request(0, 1, 2, 1, 2, false), 5);
        Due.is("to the same origin, and no credentials", x.request(0, 1, 2, 1, 1, false), 0);
    }

    /**
     * "[...] and allows PUT, if that is the method, and headers, if it has one; otherwise the request is refused (5)."
     */
    private static void grantsIfTheOthersAreAllowed() {
        for (int others = 0; others < 4; others++) {
            HopRules x = scene(0);
            x.allow(1, -2, false, others, 0);
            Due.is("PUT, " + others, x.request(0, 1, 2, 1, 0, false), others % 2 == 1 ? 0 : 5);
            Due.is("GET with a header, " + others, x.request(0, 1, 0, 1, 0, true), others >= 2 ? 0 : 5);
            Due.is("POST with a header, " + others, x.request(0, 1, 1, 1, 0, true), others >= 2 ? 0 : 5);
            Due.is("PUT with a header, " + others, x.request(0, 1, 2, 1, 0, true), others == 3 ? 0 : 5);
            Due.is("neither, " + others, x.request(0, 1, 1, 1, 0, false), 0);
            Due.is("judged, " + others, x.judged(0), others % 2 == 1 ? 0 : 5);
        }
    }

    /** "[...] and the answer tells an age above 0 [...]", "(with the age 0 that stays)" */
    private static void keepsNoneWithTheAge0() {
        HopRules x = scene(0);
        put(x, 0, 1);
        put(x, 0, 1);
        Due.is("the age 0", x.count(2), 2);
        x.allow(1, -2, false, 1, 5);
        put(x, 0, 1);
        x.pass(4);
        x.allow(1, -2, false, 3, 0);
        x.request(0, 1, 0, 1, 0, true);
        Due.is("another one, with the age 0", x.count(2), 4);
        put(x, 0, 1);
        Due.is("the first stays", x.count(2), 4);
        x.pass(1);
        put(x, 0, 1);
        Due.is("up to its own time", x.count(2), 5);
    }

    /** "it is kept [...] in place of one for the same" */
    private static void keepsOneInPlaceOfOneForTheSame() {
        HopRules x = scene(0);
        x.allow(1, -2, false, 1, 1000);
        put(x, 0, 1);
        x.allow(1, -2, false, 2, 5);
        x.request(0, 1, 0, 1, 0, true);
        Due.is("another one", x.count(2), 2);
        x.allow(1, -2, false, 3, 0);
        put(x, 0, 1);
        Due.is("the first is there no more", x.count(2), 3);
        x.request(0, 1, 0, 1, 0, true);
        Due.is("the second is", x.count(2), 3);
        x.pass(5);
        x.request(0, 1, 0, 1, 0, true);
        Due.is("up to its own time, which comes earlier", x.count(2), 4);
    }

    /** "If it is granted [...] it is kept": one that is refused is not, and takes no other's place. */
    private static void keepsNoneThatWasRefused() {
        HopRules x = scene(0);
        x.allow(1, -1, false, 3, 9);
        put(x, 0, 1);
        x.allow(1, -2, false, 0, 9);
        put(x, 0, 1);
        x.allow(1, -2, false, 1, 9);
        put(x, 0, 1);
        Due.is("none was kept", x.count(2), 3);
        x.allow(1, -1, false, 3, 9);
        Due.is("another one is refused", x.request(0, 1, 0, 1, 0, true), 5);
        x.allow(1, -2, false, 1, 9);
        put(x, 0, 1);
        Due.is("the first stays", x.count(2), 4);
    }

    /** "In the mode 1, if it is cross: the answer lets the request [...]", even if a preflight is kept */
    private static void leavesTheAnswerToBeAsked() {
        HopRules x = scene(9);
        Due.is("let", put(x, 0, 1), 0);
        x.allow(1, -1, false, 0, 0);
        Due.is("not let", put(x, 0, 1), 3);
        Due.is("without another one", x.count(2), 1);
    }

    /** "A preflight uses a connection without credentials" */
    private static void usesAConnectionWithoutCredentials() {
        HopRules x = scene(0);
        x.allow(1, 0, true, 3, 0);
        x.request(0, 1, 2, 1, 2, false);
        Due.is("one, and one with credentials", x.count(0), 2);
        x.request(0, 1, 0, 1, 0, false);
        Due.is("the one without them", x.count(0), 2);
        HopRules y = scene(0);
        put(y, 0, 1);
        Due.is("the same for both", y.count(0), 1);
    }

    /** The same sentence: it uses one even if it is refused, and the hop then uses none. */
    private static void usesAConnectionEvenIfItIsRefused() {
        HopRules x = scene(0);
        x.allow(1, -1, true, 3, 0);
        Due.is("refused", x.request(0, 1, 2, 1, 2, false), 5);
        Due.is("one alone", x.count(0), 1);
        x.request(0, 1, 0, 1, 0, false);
        Due.is("that without credentials", x.count(0), 1);
    }
}
