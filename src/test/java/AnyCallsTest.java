/**
 * Runs of calls with arguments in and out of range: only the exceptions of the document come, a call
 * that throws changes nothing that can be seen, at once or later, and each request is judged as it was told.
 */
public final class AnyCallsTest {
    private static final int RUNS = 60;
    private static final int CALLS = 512;

    private long seed;
    private HopRules x;
    private int requests;
    private int throwing;
    private int answering;

    private AnyCallsTest() {
        seed = 20261118L;
    }

    public static void main(String[] args) {
        AnyCallsTest test = new AnyCallsTest();
        for (int run = 0; run < RUNS; run++) {
            test.run(run);
        }
        Due.is("some calls throw", test.throwing > RUNS, true);
        Due.is("some calls answer", test.answering > RUNS, true);
        Due.end();
    }

    private void run(int run) {
        x = new HopRules();
        // It takes the same calls but for those that throw, so that both are always in the same state.
        HopRules twin = new HopRules();
        requests = 0;
        for (int call = 0; call < CALLS; call++) {
            int kind = call < 30 ? below(5) : call < 60 ? below(13) : below(22);
            String before = Due.state(x);
            long seedBefore = seed;
            String thrown = Due.thrownBy(() -> call(kind));
            String what = "run " + run + ", call " + call + " of the kind " + kind;
            boolean isDue = thrown.equals("nothing") || thrown.equals("IndexOutOfBoundsException")
                || thrown.equals("IllegalArgumentException") || thrown.equals("IllegalStateException");
            Due.is(what + " throws " + thrown, isDue, true);
            if (thrown.equals("nothing")) {
                answering++;
                callAgain(twin, kind, seedBefore);
                Due.is(what + ": without those that threw", Due.state(twin), Due.state(x));
            } else {
                throwing++;
                Due.is(what + " throws and changes", Due.state(x), before);
            }
            Due.is(what + ": cookies are at most 10", x.cookies() <= 10, true);
            Due.is(what + ": connections are at most 6", x.count(1) <= 6, true);
        }
    }

    /** The same call with the same arguments on another object. */
    private void callAgain(HopRules twin, int kind, long seedBefore) {
        HopRules first = x;
        int requestsBefore = requests;
        x = twin;
        seed = seedBefore;
        if (kind >= 13 && kind < 19) {
            requests--;
        }
        call(kind);
        x = first;
        requests = requestsBefore;
    }

    private int below(int limit) {
        seed = seed * 6364136223846793005L + 1442695040888963407L;
        return (int) ((seed >>> 33) % limit);
    }

    /** Mostly from the range, sometimes just beside it, seldom far away. */
    private int from(int low, int high) {
        int dice = below(60);
        if (dice == 0) {
            return below(2) == 0 ? low - 1 : high + 1;
        }
        if (dice == 1) {
            int[] far = {Integer.MIN_VALUE, Integer.MAX_VALUE, -1000, 1000000};
            return far[below(far.length)];
        }
        return low + below(high - low + 1);
    }

    private int path() {
        int[] paths = {0, 0, 1, 12, 2, 123, 21, 10, 1234};
        return paths[below(60) == 0 ? 7 + below(2) : below(7)];
    }

    private boolean coin() {
        return below(2) == 0;
    }

    private void call(int kind) {
        if (kind < 5) {
            callOfHosts(kind);
        } else if (kind < 13) {
            callOfAnswers(kind);
        } else if (kind < 19) {
            callRequest();
        } else if (kind == 19) {
            x.pass(from(1, below(3) == 0 ? 1000 : 15));
        } else {
            callOfRecords();
        }
    }

    private void callOfHosts(int kind) {
        switch (kind) {
            case 0:
                x.host(from(-1, 6), from(0, 3), coin());
                break;
            case 1:
                x.resolve(from(0, 8), from(1, 250));
                break;
            case 2:
                x.text(from(0, 8), from(0, 20));
                break;
            default:
                x.address(from(0, 1), from(0, 6), below(4) == 0 ? from(0, 9999) : 0, path());
        }
    }

    private void callOfAnswers(int kind) {
        switch (kind) {
            case 5:
                x.redirect(from(0, 8), from(-1, 8), from(0, 4));
                break;
            case 6:
            case 7:
                x.allow(from(0, 8), from(-3, 4), coin(), from(0, 3), from(0, 30));
                break;
            case 8:
            case 9:
                x.setsCookie(from(0, 8), from(0, 9), from(-1, 20), from(-1, 4), path(), from(0, 15), from(-1, 30));
                break;
            case 10:
                x.page(from(0, 8), from(-1, 5), from(0, 4));
                break;
            case 11:
                x.toggleSuffix(from(0, 6));
                break;
            default:
                x.toggleBlocking();
        }
    }

    private void callRequest() {
        int mode = from(0, 2);
        int method = mode == 1 ? from(0, 2) : from(0, 1);
        int end = x.request(from(0, 4), from(0, 10), method, mode, from(0, 2), mode == 1 && coin());
        Due.is("end", end >= 0 && end <= 5, true);
        Due.is("judged", x.judged(requests), end);
        requests++;
    }

    private void callOfRecords() {
        switch (below(6)) {
            case 0:
                x.hop(from(0, 39), from(0, 5));
                break;
            case 1:
                x.sent(from(0, 39), from(0, 5), from(0, 10));
                break;
            case 2:
                x.judged(from(0, 39));
                break;
            case 3:
                x.cookie(from(0, 9));
                break;
            case 4:
                x.site(from(0, 15));
                break;
            default:
                x.count(from(0, 2));
        }
    }
}
