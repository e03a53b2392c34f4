import java.lang.reflect.InvocationTargetException;
import java.lang.reflect.Method;
import java.util.ArrayList;
import java.util.Arrays;
import java.util.List;
import java.util.Map;
import java.util.TreeMap;

/** Runs of calls, mostly with arguments in range, on HopRules and on the Model: all answers have to be the same. */
public final class ModelTest {
    private static final int RUNS = 400;
    private static final int CALLS = 150;
    private static final int[] PATHS = {0, 0, 1, 12, 2, 123, 21, 11, 111};
    private static final int[] PORTS = {80, 443, 81, 1, 9999};
    private static final String[] CALLED_OFTEN = {"setsCookie", "setsCookie", "setsCookie", "setsCookie", "allow",
        "allow", "redirect", "redirect", "request", "request", "request", "request", "request", "request", "pass",
        "sundry"};

    private static final Map<String, Method> OF_RULES = methodsOf(HopRules.class);
    private static final Map<String, Method> OF_MODEL = methodsOf(Model.class);
    private static final int[] ENDS = new int[6];

    private final HopRules rules = new HopRules();
    private final Model model = new Model();
    private final List<String> log = new ArrayList<>();
    private final int names;
    private boolean isSame = true;
    private long seed;
    private int hosts;
    private int addresses;
    private int pages;
    private int requests;

    private ModelTest(long seed) {
        this.seed = seed;
        names = 3 * (1 + below(3));
    }

    public static void main(String[] args) {
        Due.is("the calls of the face", OF_MODEL.keySet().toString(), OF_RULES.keySet().toString());
        for (int run = 0; run < RUNS; run++) {
            new ModelTest(1000003L * run).run();
        }
        for (int end = 0; end < 6; end++) {
            Due.is("some requests end with " + end, ENDS[end] > RUNS, true);
        }
        Due.end();
    }

    private static Map<String, Method> methodsOf(Class<?> type) {
        Map<String, Method> methods = new TreeMap<>();
        for (Method method : type.getMethods()) {
            if (method.getDeclaringClass() == type) {
                methods.put(method.getName(), method);
            }
        }
        return methods;
    }

    private void run() {
        for (int more = 2 + below(8); more > 0; more--) {
            tellHost();
        }
        for (int more = 3 + below(14); more > 0; more--) {
            tellAddress();
        }
        for (int more = 5; more > 0; more--) {
            openPage();
        }
        for (int call = 0; call < CALLS && isSame; call++) {
            call(CALLED_OFTEN[below(CALLED_OFTEN.length)]);
            compareCounts();
        }
        for (int request = 0; request < requests && isSame; request++) {
            compareChain(request);
        }
    }

    /** The answer of both or the name of their exception; if they differ the whole run is told. */
    private String both(String name, Object... told) {
        String due = answer(OF_MODEL.get(name), model, told);
        String got = answer(OF_RULES.get(name), rules, told);
        log.add(name + Arrays.toString(told) + " " + due);
        if (isSame) {
            isSame = got.equals(due);
            Due.is(isSame ? name : String.join("\n", log), got, due);
        }
        return due;
    }

    private static String answer(Method method, Object object, Object[] told) {
        try {
            return String.valueOf(method.invoke(object, told));
        } catch (InvocationTargetException e) {
            return e.getCause().getClass().getSimpleName();
        } catch (IllegalAccessException e) {
            return e.toString();
        }
    }

    private int below(int limit) {
        seed = seed * 6364136223846793005L + 1442695040888963407L;
        return (int) ((seed >>> 33) % limit);
    }

    /** Mostly from the range, seldom just beside it or far away. */
    private int from(int low, int high) {
        int dice = below(150);
        int[] beside = {low - 1, high + 1, Integer.MIN_VALUE, Integer.MAX_VALUE};
        return dice < beside.length ? beside[dice] : low + below(Math.max(high - low + 1, 1));
    }

    private boolean coin() {
        return below(2) == 0;
    }

    private int path() {
        return below(100) == 0 ? from(0, 1200) : PATHS[below(PATHS.length)];
    }

    private int address() {
        return from(0, addresses - 1);
    }

    private int host() {
        return from(0, hosts - 1);
    }

    private static boolean isNumber(String answer) {
        return !answer.endsWith("Exception");
    }

    private void tellHost() {
        String answer = both("host", from(-1, hosts - 1), from(0, below(5) == 0 ? 701 : 2), coin());
        hosts = isNumber(answer) ? Math.max(hosts, Integer.parseInt(answer) + 1) : hosts;
    }

    private void tellAddress() {
        int port = below(4) == 0 ? PORTS[below(PORTS.length)] : below(10) == 0 ? from(0, 9999) : 0;
        String answer = both("address", below(3) == 0 ? from(0, 1) : 1, host(), port, path());
        addresses = isNumber(answer) ? Math.max(addresses, Integer.parseInt(answer) + 1) : addresses;
    }

    private void openPage() {
        pages += isNumber(both("page", address(), coin() ? -1 : from(-1, pages - 1), from(0, 4))) ? 1 : 0;
    }

    private void call(String name) {
        switch (name) {
            case "setsCookie":
                int flags = below(4) == 0 ? from(0, 63) : from(0, 15) | 1;
                int age = below(4) == 0 ? from(-1, 40) : 0;
                int domain = coin() ? -1 : host();
                int value = below(9) == 0 ? -1 : from(0, 999);
                both("setsCookie", address(), from(0, names), value, domain, path(), flags, age);
                break;
            case "allow":
                int origins = coin() ? from(-3, -1) : address();
                both("allow", address(), origins, coin(), coin() ? 3 : from(0, 3), from(0, 40));
                break;
            case "redirect":
                both("redirect", address(), coin() ? -1 : address(), from(0, 4));
                break;
            case "request":
                request();
                break;
            case "pass":
                both("pass", below(20) == 0 ? from(1, 1000) : from(1, 12));
                break;
            default:
                callSundry();
        }
    }

    private void callSundry() {
        switch (below(8)) {
            case 0:
                both("toggleBlocking");
                break;
            case 1:
            case 2:
                both("toggleSuffix", host());
                break;
            case 3:
                both("resolve", address(), coin() ? from(1, 29) : coin() ? from(100, 299) : from(1000, 29999));
                break;
            case 4:
                both("text", address(), from(0, 25));
                break;
            case 5:
                both("sent", from(0, 39), from(0, 5), from(0, 3));
                break;
            case 6:
                tellHost();
                tellAddress();
                break;
            default:
                openPage();
        }
    }

    private void request() {
        int mode = coin() ? 2 : from(0, 2);
        int method = mode == 1 ? from(0, 2) : from(0, 1);
        boolean hasHeader = below(mode == 1 ? 3 : 100) == 0;
        String end = both("request", from(0, pages - 1), address(), method, mode, from(0, 2), hasHeader);
        if (isNumber(end)) {
            ENDS[Integer.parseInt(end)]++;
            compareChain(requests);
            requests++;
        }
    }

    private void compareChain(int request) {
        both("judged", request);
        String hops = both("hops", request);
        for (int hop = 0; isNumber(hops) && hop < Integer.parseInt(hops); hop++) {
            both("hop", request, hop);
            int place = 0;
            while (place <= 10 && !both("sent", request, hop, place).equals("-1")) {
                place++;
            }
        }
    }

    private void compareCounts() {
        int cookies = Integer.parseInt(both("cookies"));
        for (int cookie = 0; cookie <= cookies; cookie++) {
            both("cookie", cookie);
        }
        for (int what = 0; what < 3; what++) {
            both("count", what);
        }
        both("site", host());
    }
}
