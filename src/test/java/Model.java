import java.util.ArrayList;
import java.util.Comparator;
import java.util.HashSet;
import java.util.List;
import java.util.Set;

/**
 * The document read a second time, with texts for hosts, paths, origins and sites, and with the Java library: ModelTest
 * compares it with HopRules. Its public methods have the names and the arguments of the face.
 */
public final class Model {
    private record Address(boolean isSafe, String host, int port, String path) {
        String origin() {
            return isSafe + " " + host + " " + (port != 0 ? port : isSafe ? 443 : 80);
        }

        String text() {
            String place = (isSafe ? "https://" : "http://") + host + (port == 0 ? "" : ":" + port);
            return place + (path.isEmpty() ? "/" : path.replaceAll("(.)", "/$1"));
        }
    }

    private static final class Answer {
        int to = -1;
        int status;
        int origins = -1;
        boolean allowsCredentials;
        int others;
        int age;
        /** The arguments of setsCookie from the name on, null if none is set. */
        int[] line;
    }

    private record Page(Address address, int parent, int policy) {
    }

    private static final class Hop {
        int code;
        final List<Integer> sent = new ArrayList<>();
    }

    private static final class Request {
        final List<Hop> chain = new ArrayList<>();
        int end;
    }

    /** What holds for a request at the hop that it has reached. */
    private static final class Way {
        Address home;
        int policy;
        String topSite;
        int method;
        int mode;
        boolean isAlways;
        boolean isToSameOrigin;
        boolean hasHeader;
        boolean isTainted;
        boolean isFar;
        boolean wasCross;

        boolean navigates() {
            return mode == 2;
        }
    }

    private static final class Cookie {
        int name;
        int value;
        String host;
        boolean isForHostAlone;
        String path;
        boolean isSecure;
        boolean isLax;
        boolean isStrict;
        boolean isPartitioned;
        String partition;
        int goneAt;
        int used;
    }

    private static final class Connection {
        String key;
        int tick;
        int used;
    }

    private record Preflight(String key, int others, int until) {
    }

    private final List<String> hosts = new ArrayList<>();
    private final Set<String> suffixes = new HashSet<>();
    private final List<Address> addresses = new ArrayList<>();
    private final List<Answer> answers = new ArrayList<>();
    private final List<Page> pages = new ArrayList<>();
    private final List<Request> requests = new ArrayList<>();
    private final List<Cookie> cookies = new ArrayList<>();
    private final List<Connection> connections = new ArrayList<>();
    private final List<Preflight> preflights = new ArrayList<>();
    private boolean isBlocking;
    private int now;
    private int opened;
    private int asked;
    private int order;

    private static void bounds(boolean isSo) {
        if (!isSo) {
            throw new IndexOutOfBoundsException();
        }
    }

    private static void argument(boolean isSo) {
        if (!isSo) {
            throw new IllegalArgumentException();
        }
    }

    private static void state(boolean isSo) {
        if (!isSo) {
            throw new IllegalStateException();
        }
    }

    private static boolean isIn(int value, int low, int high) {
        return low <= value && value <= high;
    }

    private static boolean isAt(int number, List<?> list) {
        return isIn(number, 0, list.size() - 1);
    }

    private static boolean isAtOrNone(int number, List<?> list) {
        return isIn(number, -1, list.size() - 1);
    }

    public int host(int under, int label, boolean isCapital) {
        bounds(isAtOrNone(under, hosts));
        argument(isIn(label, 0, 701));
        String letters = label < 26 ? letter(label) : letter((label - 26) / 26) + letter((label - 26) % 26);
        String text = under == -1 ? letters : letters + "." + hosts.get(under);
        if (!hosts.contains(text)) {
            state(hosts.size() < 16 && text.split("\\.").length <= 4);
            hosts.add(text);
        }
        return hosts.indexOf(text);
    }

    private static String letter(int place) {
        return "abcdefghijklmnopqrstuvwxyz".substring(place, place + 1);
    }

    public boolean toggleSuffix(int host) {
        bounds(isAt(host, hosts));
        return !suffixes.remove(hosts.get(host)) && suffixes.add(hosts.get(host));
    }

    public int site(int host) {
        bounds(isAt(host, hosts));
        return hosts.indexOf(siteHost(hosts.get(host)));
    }

    private String siteHost(String host) {
        String below = host;
        for (String reached = host; !reached.isEmpty(); reached = reached.replaceAll("^[a-z]*\\.?", "")) {
            if (suffixes.contains(reached)) {
                return below;
            }
            below = reached;
        }
        return below;
    }

    private String site(Address address) {
        return address.isSafe + " " + siteHost(address.host);
    }

    private static boolean isUnder(String host, String other) {
        return host.endsWith("." + other);
    }

    private static boolean isPath(int path) {
        return path == 0 || Integer.toString(path).matches("[1-9]{1,3}");
    }

    private static String segments(int path) {
        return path == 0 ? "" : Integer.toString(path);
    }

    public int address(int scheme, int host, int port, int path) {
        bounds(isAt(host, hosts));
        argument(isIn(scheme, 0, 1) && isIn(port, 0, 9999) && isPath(path));
        return tell(new Address(scheme == 1, hosts.get(host), port, segments(path)));
    }

    private int tell(Address address) {
        if (!addresses.contains(address)) {
            state(addresses.size() < 24);
            addresses.add(address);
            answers.add(new Answer());
        }
        return addresses.indexOf(address);
    }

    public int resolve(int address, int reference) {
        bounds(isAt(address, addresses));
        String digits = Integer.toString(reference);
        argument(digits.matches("[12][0-9]{0,4}"));
        Address base = addresses.get(address);
        String path = digits.startsWith("1") ? withoutLast(base.path) : "";
        for (String digit : digits.substring(1).split("")) {
            path = digit.equals("0") ? withoutLast(path) : path + digit;
        }
        argument(path.length() <= 3);
        return tell(new Address(base.isSafe, base.host, base.port, path));
    }

    private static String withoutLast(String path) {
        return path.replaceAll(".$", "");
    }

    public char text(int address, int place) {
        bounds(isAt(address, addresses));
        String text = addresses.get(address).text();
        bounds(isIn(place, 0, text.length() - 1));
        return text.charAt(place);
    }

    public void redirect(int address, int to, int status) {
        bounds(isAt(address, addresses) && isAtOrNone(to, addresses));
        argument(isIn(status, 0, 4));
        answers.get(address).to = to;
        answers.get(address).status = status;
    }

    public void allow(int address, int origins, boolean credentials, int others, int age) {
        bounds(isAt(address, addresses) && isIn(origins, -3, addresses.size() - 1));
        argument(isIn(others, 0, 3) && isIn(age, 0, 1000));
        Answer answer = answers.get(address);
        answer.origins = origins;
        answer.allowsCredentials = credentials;
        answer.others = others;
        answer.age = age;
    }

    public void setsCookie(int address, int name, int value, int domain, int path, int flags, int age) {
        bounds(isAt(address, addresses) && isAtOrNone(domain, hosts));
        argument(isIn(name, 0, 9) && isIn(value, -1, 999) && isPath(path) && isIn(flags, 0, 63) && isIn(age, -1, 1000));
        answers.get(address).line = value == -1 ? null : new int[] {name, value, domain, path, flags, age};
    }

    public boolean toggleBlocking() {
        isBlocking = !isBlocking;
        return isBlocking;
    }

    public int page(int address, int parent, int policy) {
        bounds(isAt(address, addresses) && isAtOrNone(parent, pages));
        argument(isIn(policy, 0, 4));
        state(pages.size() < 8);
        pages.add(new Page(addresses.get(address), parent, policy));
        return pages.size() - 1;
    }

    public int request(int page, int address, int method, int mode, int credentials, boolean hasHeader) {
        bounds(isAt(page, pages) && isAt(address, addresses));
        argument(isIn(method, 0, 2) && isIn(mode, 0, 2) && isIn(credentials, 0, 2));
        argument(mode == 1 || (method != 2 && !hasHeader));
        state(requests.size() < 40 && (mode != 2 || pages.get(page).parent == -1));
        Way way = new Way();
        way.method = method;
        way.mode = mode;
        way.isAlways = credentials == 2 || mode == 2;
        way.isToSameOrigin = credentials == 1;
        way.hasHeader = hasHeader;
        begin(way, pages.get(page));
        Request made = new Request();
        requests.add(made);
        made.end = go(made, way, address);
        return made.end;
    }

    private void begin(Way way, Page page) {
        way.home = page.address;
        way.policy = page.policy;
        Page top = page;
        while (top.parent != -1) {
            top = pages.get(top.parent);
            way.isFar |= !site(top.address).equals(site(page.address));
        }
        way.topSite = site(top.address);
    }

    private int go(Request made, Way way, int first) {
        int next = first;
        for (int redirects = 0; redirects < 6; redirects++) {
            boolean isMixed = isMixed(way, addresses.get(next));
            int safe = addresses.indexOf(safe(addresses.get(next)));
            if (isMixed && way.mode == 0 && safe != -1) {
                next = safe;
                isMixed = false;
            }
            Hop hop = new Hop();
            made.chain.add(hop);
            Address at = addresses.get(next);
            hop.code = 1000 * next + 100 * way.method + (way.isTainted ? 10 : 0) + referrer(way, at);
            int end = isMixed ? 2 : take(way, hop, at, answers.get(next));
            if (end != -1) {
                return end;
            }
            next = answers.get(next).to;
        }
        return 4;
    }

    private static boolean isMixed(Way way, Address at) {
        return way.home.isSafe && !at.isSafe && !way.navigates();
    }

    private static Address safe(Address at) {
        return new Address(true, at.host, at.port, at.path);
    }

    private static int referrer(Way way, Address at) {
        int ifSame = new int[] {0, 1, 2, 2, 2}[way.policy];
        int ifOther = new int[] {0, 1, 0, way.home.isSafe && !at.isSafe ? 0 : 1, 2}[way.policy];
        return way.home.origin().equals(at.origin()) ? ifSame : ifOther;
    }

    /** The steps 2 to 7 at a hop; -1 if the request goes on. */
    private int take(Way way, Hop hop, Address at, Answer answer) {
        String partition = way.navigates() ? site(at) : way.topSite;
        boolean isCross = way.isTainted || !at.origin().equals(way.home.origin());
        boolean isLet = way.mode != 1 || !isCross || lets(way, answer);
        if (way.mode == 1 && isCross && !passesPreflight(way, at, answer, partition)) {
            return 5;
        }
        boolean isWithCredentials = way.isAlways || (way.isToSameOrigin && !isCross);
        connect(at.origin() + " " + isWithCredentials + " " + partition);
        way.wasCross |= isCross;
        way.isFar |= !site(at).equals(site(way.home));
        if (isWithCredentials) {
            send(way, hop, at, partition);
            set(way, answer.line, at, partition);
        }
        if (!isLet) {
            return 3;
        }
        if (answer.to == -1) {
            return way.mode == 0 && way.wasCross ? 1 : 0;
        }
        boolean isElsewhere = !addresses.get(answer.to).origin().equals(at.origin());
        way.isTainted |= way.mode == 1 && isCross && isElsewhere;
        way.method = List.of("002", "002", "000", "012", "012").get(answer.status).charAt(way.method) - '0';
        return -1;
    }

    private boolean lets(Way way, Answer answer) {
        boolean isEnough = answer.allowsCredentials || !way.isAlways;
        if (answer.origins < 0) {
            return answer.origins == -2 ? !way.isAlways : answer.origins == -3 && way.isTainted && isEnough;
        }
        return !way.isTainted && isEnough && addresses.get(answer.origins).origin().equals(way.home.origin());
    }

    private boolean passesPreflight(Way way, Address at, Answer answer, String partition) {
        int needed = (way.method == 2 ? 1 : 0) + (way.hasHeader ? 2 : 0);
        String key = (way.isTainted ? "taint" : way.home.origin()) + at + way.isAlways + partition;
        boolean isKept = preflights.stream().anyMatch(kept -> kept.key.equals(key) && now < kept.until
            && (kept.others & needed) == needed);
        if (needed == 0 || isKept) {
            return true;
        }
        asked++;
        connect(at.origin() + " false " + partition);
        boolean isGranted = lets(way, answer) && (answer.others & needed) == needed;
        if (isGranted && answer.age > 0) {
            preflights.removeIf(kept -> kept.key.equals(key));
            preflights.add(new Preflight(key, answer.others, now + answer.age));
        }
        return isGranted;
    }

    private void connect(String key) {
        Connection used = new Connection();
        for (Connection connection : connections) {
            used = connection.key.equals(key) && now - connection.tick <= 20 ? connection : used;
        }
        if (used.key == null) {
            connections.removeIf(connection -> connection.key.equals(key));
            if (connections.size() == 6) {
                connections.sort(Comparator.comparingInt(connection -> connection.used));
                connections.remove(0);
            }
            used.key = key;
            connections.add(used);
            opened++;
        }
        used.tick = now;
        used.used = order++;
    }

    private List<Cookie> thoseThatThereAre() {
        cookies.removeIf(cookie -> cookie.goneAt <= now);
        return cookies;
    }

    private void send(Way way, Hop hop, Address at, String partition) {
        List<Cookie> sent = new ArrayList<>(thoseThatThereAre());
        sent.removeIf(cookie -> !cookie.host.equals(at.host) && !isUnder(at.host, cookie.host));
        sent.removeIf(cookie -> !cookie.host.equals(at.host) && cookie.isForHostAlone);
        sent.removeIf(cookie -> !at.path.startsWith(cookie.path));
        sent.removeIf(cookie -> cookie.isSecure && !at.isSafe);
        sent.removeIf(cookie -> cookie.isPartitioned && !cookie.partition.equals(partition));
        if (way.isFar) {
            boolean isFollowed = way.navigates() && way.method == 0;
            sent.removeIf(cookie -> cookie.isStrict || (cookie.isLax && !isFollowed));
            sent.removeIf(cookie -> isBlocking && !way.navigates() && !cookie.isPartitioned);
        }
        sent.sort(Comparator.comparingInt(cookie -> -cookie.path.length()));
        for (Cookie cookie : sent) {
            hop.sent.add(1000 * cookie.name + cookie.value);
            cookie.used = order++;
        }
    }

    private void set(Way way, int[] line, Address at, String partition) {
        if (line == null) {
            return;
        }
        Cookie made = make(line, at, partition);
        if (isRefused(way, line, made, at, partition)) {
            return;
        }
        int place = -1;
        for (Cookie cookie : thoseThatThereAre()) {
            boolean isSame = cookie.name == made.name && cookie.host.equals(made.host) && cookie.path.equals(made.path)
                && cookie.partition.equals(made.partition);
            place = isSame ? cookies.indexOf(cookie) : place;
        }
        if (place != -1) {
            cookies.remove(place);
        }
        if (line[5] != -1) {
            made.used = order++;
            cookies.add(place == -1 ? cookies.size() : place, made);
            evict(made);
        }
    }

    private Cookie make(int[] line, Address at, String partition) {
        Cookie made = new Cookie();
        made.name = line[0];
        made.value = line[1];
        String domain = line[2] == -1 ? at.host : hosts.get(line[2]);
        made.isForHostAlone = line[2] == -1 || (suffixes.contains(domain) && domain.equals(at.host));
        made.host = domain;
        made.path = segments(line[3]);
        made.isSecure = (line[4] & 1) != 0;
        made.isPartitioned = (line[4] & 2) != 0;
        made.isStrict = (line[4] & 8) != 0;
        made.isLax = (line[4] & 4) != 0 && !made.isStrict;
        made.partition = made.isPartitioned ? partition : "none";
        made.goneAt = line[5] > 0 ? now + line[5] : Integer.MAX_VALUE;
        return made;
    }

    private boolean isRefused(Way way, int[] line, Cookie made, Address at, String partition) {
        boolean isThere = made.host.equals(at.host) || isUnder(at.host, made.host);
        if (!made.isForHostAlone && (suffixes.contains(made.host) || !isThere)) {
            return true;
        }
        boolean isKind = made.isLax || made.isStrict;
        boolean hasHostPrefix = (line[4] & 32) != 0;
        boolean needsToBeSecure = !isKind || made.isPartitioned || (line[4] & 16) != 0 || hasHostPrefix;
        boolean isStranger = way.isFar && !way.navigates();
        return (made.isSecure && !at.isSafe)
            || (needsToBeSecure && !made.isSecure)
            || (hasHostPrefix && (line[2] != -1 || !made.path.isEmpty()))
            || (isStranger && isKind)
            || (isStranger && isBlocking && !made.isPartitioned)
            || (!at.isSafe && thoseThatThereAre().stream().anyMatch(cookie -> isOver(cookie, made, partition)));
    }

    private static boolean isOver(Cookie cookie, Cookie made, String partition) {
        boolean isUnderTheOther = isUnder(cookie.host, made.host) || isUnder(made.host, cookie.host);
        return (isUnderTheOther || cookie.host.equals(made.host)) && cookie.isSecure && cookie.name == made.name
            && made.path.startsWith(cookie.path) && (!cookie.isPartitioned || cookie.partition.equals(partition));
    }

    private void evict(Cookie made) {
        List<Cookie> sharing = new ArrayList<>(cookies);
        sharing.removeIf(cookie -> !siteHost(cookie.host).equals(siteHost(made.host)));
        sharing.removeIf(cookie -> !cookie.partition.equals(made.partition));
        evict(sharing, 4);
        evict(new ArrayList<>(cookies), 10);
    }

    private void evict(List<Cookie> some, int limit) {
        Comparator<Cookie> secureLast = Comparator.comparing(cookie -> cookie.isSecure);
        some.sort(secureLast.thenComparing(cookie -> cookie.used));
        for (int i = 0; i < some.size() - limit; i++) {
            cookies.remove(some.get(i));
        }
    }

    public int pass(int ticks) {
        argument(isIn(ticks, 1, 1000));
        now += ticks;
        return now;
    }

    private Request requestAt(int request) {
        bounds(isAt(request, requests));
        return requests.get(request);
    }

    private Hop hopAt(int request, int hop) {
        bounds(isAt(hop, requestAt(request).chain));
        return requestAt(request).chain.get(hop);
    }

    public int hops(int request) {
        return requestAt(request).chain.size();
    }

    public int hop(int request, int hop) {
        return hopAt(request, hop).code;
    }

    public int sent(int request, int hop, int place) {
        List<Integer> sent = hopAt(request, hop).sent;
        bounds(place >= 0);
        return place < sent.size() ? sent.get(place) : -1;
    }

    public int judged(int request) {
        return requestAt(request).end;
    }

    public int cookies() {
        return thoseThatThereAre().size();
    }

    public int cookie(int cookie) {
        bounds(isAt(cookie, thoseThatThereAre()));
        Cookie found = cookies.get(cookie);
        int code = 100000 * hosts.indexOf(found.host) + 1000 * found.name + found.value;
        return found.isPartitioned ? code + 50000000 : code;
    }

    public int count(int what) {
        argument(isIn(what, 0, 2));
        return List.of(opened, connections.size(), asked).get(what);
    }
}
