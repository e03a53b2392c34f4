/** Compares answers with those that are due, and ends the test with exit code 1 if one was not. */
final class Due {
    interface Call {
        void run();
    }

    private static int wrong = 0;

    private Due() {
    }

    static void is(String what, long got, long due) {
        if (got != due) {
            wrong++;
            System.out.println(what + ": answered " + got + ", due is " + due);
        }
    }

    static void is(String what, boolean got, boolean due) {
        is(what, got ? 1 : 0, due ? 1 : 0);
    }

    static void is(String what, String got, String due) {
        if (!got.equals(due)) {
            wrong++;
            System.out.println(what + ": answered " + got + ", due is " + due);
        }
    }

    static void bounds(String what, Call call) {
        is(what, thrownBy(call), "IndexOutOfBoundsException");
    }

    static void argument(String what, Call call) {
        is(what, thrownBy(call), "IllegalArgumentException");
    }

    static void state(String what, Call call) {
        is(what, thrownBy(call), "IllegalStateException");
    }

    /** The name of the exception; one that HopRules does not throw itself is told with the place that throws it. */
    static String thrownBy(Call call) {
        try {
            call.run();
            return "nothing";
        } catch (RuntimeException e) {
            StackTraceElement[] trace = e.getStackTrace();
            String thrower = trace.length == 0 ? "the machine" : trace[0].getClassName();
            String name = e.getClass().getSimpleName();
            return thrower.equals("HopRules") ? name : name + " of " + thrower;
        }
    }

    /** The text of an address, read up to the first character that does not exist. */
    static String text(HopRules x, int address) {
        StringBuilder whole = new StringBuilder();
        for (int place = 0; place < 100; place++) {
            try {
                whole.append(x.text(address, place));
            } catch (IndexOutOfBoundsException e) {
                break;
            }
        }
        return whole.toString();
    }

    /** The cookies sent at a hop, each with a comma behind it. */
    static String sent(HopRules x, int request, int hop) {
        StringBuilder all = new StringBuilder();
        for (int place = 0; place < 20 && x.sent(request, hop, place) != -1; place++) {
            all.append(x.sent(request, hop, place)).append(',');
        }
        return all.toString();
    }

    /** The cookies that there are, each with a comma behind it. */
    static String cookies(HopRules x) {
        StringBuilder all = new StringBuilder();
        for (int i = 0; i < x.cookies(); i++) {
            all.append(x.cookie(i)).append(',');
        }
        return all.toString();
    }

    /** Everything that can be asked without changing anything. */
    static String state(HopRules x) {
        StringBuilder all = new StringBuilder();
        for (int host = 0; host < 17; host++) {
            int asked = host;
            all.append(thrownBy(() -> x.site(asked)).equals("nothing") ? x.site(host) : -9).append(' ');
        }
        for (int address = 0; address < 25; address++) {
            all.append(text(x, address)).append(' ');
        }
        for (int request = 0; request < 41; request++) {
            int asked = request;
            if (thrownBy(() -> x.hops(asked)).equals("nothing")) {
                all.append(x.judged(request)).append(':');
                for (int hop = 0; hop < x.hops(request); hop++) {
                    all.append(x.hop(request, hop)).append('(').append(sent(x, request, hop)).append(')');
                }
            }
        }
        all.append(cookies(x)).append(x.count(0)).append(' ').append(x.count(1)).append(' ').append(x.count(2));
        return all.toString();
    }

    static void end() {
        if (wrong != 0) {
            System.out.println(wrong + " answers are not as due");
            System.exit(1);
        }
    }
}
