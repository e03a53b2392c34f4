import java.util.ArrayList;

/** The network rules of a browser. What each call promises stands in ../shared/DOC.md. */
public final class HopRules {
    private static final int MAX_HOSTS = 16;
    private static final int MAX_HOSTS_ABOVE = 3;
    private static final int MAX_LABEL = 701;
    private static final int LETTERS = 26;

    private static final int MAX_ADDRESSES = 24;
    private static final int MAX_PORT = 9999;
    private static final int PORTS = 10000;
    private static final int MAX_SEGMENTS = 3;
    private static final int MAX_PATH = 999;
    private static final int MAX_REFERENCE_POWER = 10000;
    private static final int HTTP = 0;
    private static final int HTTPS = 1;

    private static final int NO_ORIGIN = -1;
    private static final int ALL_ORIGINS = -2;
    private static final int THE_TAINT = -3;
    private static final int ALLOWS_PUT = 1;
    private static final int ALLOWS_HEADERS = 2;
    private static final int MAX_OTHERS = 3;
    private static final int MAX_STATUS = 4;
    private static final int STATUS_302 = 1;
    private static final int STATUS_303 = 2;

    private static final int MAX_NAME = 9;
    private static final int MAX_VALUE = 999;
    private static final int MAX_FLAGS = 63;
    private static final int SECURE = 1;
    private static final int PARTITIONED = 2;
    private static final int LAX = 4;
    private static final int STRICT = 8;
    private static final int SECURE_PREFIX = 16;
    private static final int HOST_PREFIX = 32;
    private static final int GOES_AT_ONCE = -1;
    private static final int STAYS = 0;
    private static final int MAX_SITE_COOKIES = 4;
    private static final int MAX_COOKIES = 10;
    private static final int NO_PARTITION = -1;

    private static final int MAX_PAGES = 8;
    private static final int MAX_POLICY = 4;
    private static final int REFERS_NOTHING = 0;
    private static final int REFERS_ORIGIN = 1;
    private static final int REFERS_WHOLE = 2;

    private static final int MAX_REQUESTS = 40;
    private static final int MAX_HOPS = 6;
    private static final int GET = 0;
    private static final int POST = 1;
    private static final int PUT = 2;
    private static final int FREE = 0;
    private static final int ASKED = 1;
    private static final int NAVIGATES = 2;
    private static final int TO_SAME_ORIGIN = 1;
    private static final int ALWAYS = 2;

    private static final int READABLE = 0;
    private static final int OPAQUE = 1;
    private static final int REFUSED_FOR_MIXING = 2;
    private static final int REFUSED_BY_ANSWER = 3;
    private static final int REFUSED_FOR_REDIRECTS = 4;
    private static final int REFUSED_BY_PREFLIGHT = 5;

    private static final int MAX_CONNECTIONS = 6;
    private static final int MAX_IDLE_TICKS = 20;
    private static final int MAX_TICKS = 1000;

    private final ArrayList<Host> hostList;
    private final ArrayList<Address> addressList;
    private final ArrayList<Page> pageList;
    private final ArrayList<Request> requestList;
    private final ArrayList<Preflight> keptPreflights;
    private final Jar jar;
    private final Pool pool;
    private boolean isBlocking;
    private int now;
    private int preflightCount;

    public HopRules() {
        hostList = new ArrayList<Host>();
        addressList = new ArrayList<Address>();
        pageList = new ArrayList<Page>();
        requestList = new ArrayList<Request>();
        keptPreflights = new ArrayList<Preflight>();
        jar = new Jar();
        pool = new Pool();
    }

    // ---- hosts and addresses

    public int host(int under, int label, boolean isCapital)
            throws IndexOutOfBoundsException, IllegalArgumentException, IllegalStateException {
        Host parent = under == -1 ? null : hostAt(under);
        if (label < 0 || label > MAX_LABEL) {
            throw new IllegalArgumentException("no such label");
        }
        // Capital letters are folded, so isCapital makes no other host.
        Host known = findHost(parent, label);
        if (known != null) {
            return known.number;
        }
        int above = parent == null ? 0 : parent.above + 1;
        if (hostList.size() >= MAX_HOSTS || above > MAX_HOSTS_ABOVE) {
            throw new IllegalStateException("no room for this host");
        }
        Host made = new Host(hostList.size(), parent, label, above);
        hostList.add(made);
        return made.number;
    }

    public boolean toggleSuffix(int host) throws IndexOutOfBoundsException {
        Host toggled = hostAt(host);
        toggled.isSuffix = !toggled.isSuffix;
        return toggled.isSuffix;
    }

    public int site(int host) throws IndexOutOfBoundsException {
        return hostAt(host).siteHost().number;
    }

    public int address(int scheme, int host, int port, int path)
            throws IndexOutOfBoundsException, IllegalArgumentException, IllegalStateException {
        Host told = hostAt(host);
        if (scheme < HTTP || scheme > HTTPS || port < 0 || port > MAX_PORT || !isPath(path)) {
            throw new IllegalArgumentException("no such scheme, port or path");
        }
        return tellAddress(scheme, told, port, path);
    }

    public int resolve(int address, int reference)
            throws IndexOutOfBoundsException, IllegalArgumentException, IllegalStateException {
        Address base = addressAt(address);
        int power = powerOfReference(reference);
        if (power == 0) {
            throw new IllegalArgumentException("no such reference");
        }
        int path = pathBehind(base.path, reference, power);
        if (path > MAX_PATH) {
            throw new IllegalArgumentException("too many segments");
        }
        return tellAddress(base.scheme, base.host, base.port, path);
    }

    public char text(int address, int place) throws IndexOutOfBoundsException {
        String whole = addressAt(address).whole;
        if (place < 0 || place >= whole.length()) {
            throw new IndexOutOfBoundsException("no such character");
        }
        return whole.charAt(place);
    }

    private Host hostAt(int number) {
        if (number < 0 || number >= hostList.size()) {
            throw new IndexOutOfBoundsException("no such host");
        }
        return hostList.get(number);
    }

    private Host findHost(Host parent, int label) {
        for (int i = 0; i < hostList.size(); i++) {
            Host host = hostList.get(i);
            if (host.parent == parent && host.label == label) {
                return host;
            }
        }
        return null;
    }

    private Address addressAt(int number) {
        if (!isAddress(number)) {
            throw new IndexOutOfBoundsException("no such address");
        }
        return addressList.get(number);
    }

    private boolean isAddress(int number) {
        return number >= 0 && number < addressList.size();
    }

    private Address findAddress(int scheme, Host host, int port, int path) {
        for (int i = 0; i < addressList.size(); i++) {
            Address address = addressList.get(i);
            if (address.scheme == scheme && address.host == host && address.port == port && address.path == path) {
                return address;
            }
        }
        return null;
    }

    private int tellAddress(int scheme, Host host, int port, int path) {
        Address known = findAddress(scheme, host, port, path);
        if (known != null) {
            return known.number;
        }
        if (addressList.size() >= MAX_ADDRESSES) {
            throw new IllegalStateException("no room for this address");
        }
        Address made = new Address(addressList.size(), scheme, host, port, path);
        addressList.add(made);
        return made.number;
    }

    private static boolean isPath(int path) {
        if (path < 0 || path > MAX_PATH) {
            return false;
        }
        int rest = path;
        for (int i = 0; i < MAX_SEGMENTS && rest > 0; i++) {
            if (rest % 10 == 0) {
                return false;
            }
            rest /= 10;
        }
        return true;
    }

    private static int countSegments(int path) {
        int segments = 0;
        int rest = path;
        for (int i = 0; i < MAX_SEGMENTS && rest > 0; i++) {
            segments++;
            rest /= 10;
        }
        return segments;
    }

    /** Whether the segments of the second path are the first segments of the first one. */
    private static boolean beginsWith(int path, int beginning) {
        int rest = path;
        for (int i = 0; i < MAX_SEGMENTS && rest > beginning; i++) {
            rest /= 10;
        }
        return rest == beginning;
    }

    /** The place value of the reference's first digit, 0 if there is no such reference. */
    private static int powerOfReference(int reference) {
        for (int power = 1; power <= MAX_REFERENCE_POWER; power *= 10) {
            if (reference >= power && reference < 3 * power) {
                return power;
            }
        }
        return 0;
    }

    private static int pathBehind(int path, int reference, int power) {
        int reached = reference < 2 * power ? path / 10 : 0;
        for (int rest = power / 10; rest >= 1; rest /= 10) {
            int digit = reference / rest % 10;
            reached = digit == 0 ? reached / 10 : 10 * reached + digit;
        }
        return reached;
    }

    // ---- answers

    public void redirect(int address, int to, int status)
            throws IndexOutOfBoundsException, IllegalArgumentException {
        Address told = addressAt(address);
        Address target = to == -1 ? null : addressAt(to);
        if (status < 0 || status > MAX_STATUS) {
            throw new IllegalArgumentException("no such status");
        }
        told.redirectsTo = target;
        told.status = status;
    }

    public void allow(int address, int origins, boolean credentials, int others, int age)
            throws IndexOutOfBoundsException, IllegalArgumentException {
        Address told = addressAt(address);
        boolean isKind = origins == NO_ORIGIN || origins == ALL_ORIGINS || origins == THE_TAINT;
        int allowed = isKind ? origins : addressAt(origins).origin();
        if (others < 0 || others > MAX_OTHERS || age < 0 || age > MAX_TICKS) {
            throw new IllegalArgumentException("no such others or age");
        }
        told.allowedOrigins = allowed;
        told.allowsCredentials = credentials;
        told.allowedOthers = others;
        told.allowedAge = age;
    }

    public void setsCookie(int address, int name, int value, int domain, int path, int flags, int age)
            throws IndexOutOfBoundsException, IllegalArgumentException {
        Address told = addressAt(address);
        Host toldDomain = domain == -1 ? null : hostAt(domain);
        if (name < 0 || name > MAX_NAME || value < -1 || value > MAX_VALUE || !isPath(path)) {
            throw new IllegalArgumentException("no such name, value or path");
        }
        if (flags < 0 || flags > MAX_FLAGS || age < GOES_AT_ONCE || age > MAX_TICKS) {
            throw new IllegalArgumentException("no such flags or age");
        }
        told.line = value == -1 ? null : new CookieLine(name, value, toldDomain, path, flags, age);
    }

    public boolean toggleBlocking() {
        isBlocking = !isBlocking;
        return isBlocking;
    }

    // ---- pages and requests

    public int page(int address, int parent, int policy)
            throws IndexOutOfBoundsException, IllegalArgumentException, IllegalStateException {
        Address told = addressAt(address);
        Page above = parent == -1 ? null : pageAt(parent);
        if (policy < 0 || policy > MAX_POLICY) {
            throw new IllegalArgumentException("no such policy");
        }
        if (pageList.size() >= MAX_PAGES) {
            throw new IllegalStateException("no room for this page");
        }
        pageList.add(new Page(told, above, policy));
        return pageList.size() - 1;
    }

    public int request(int page, int address, int method, int mode, int credentials, boolean hasHeader)
            throws IndexOutOfBoundsException, IllegalArgumentException, IllegalStateException {
        Page from = pageAt(page);
        Address next = addressAt(address);
        if (method < GET || method > PUT || mode < FREE || mode > NAVIGATES
                || credentials < 0 || credentials > ALWAYS) {
            throw new IllegalArgumentException("no such method, mode or credentials");
        }
        if (mode != ASKED && (method == PUT || hasHeader)) {
            throw new IllegalArgumentException("method and header do not go with the mode");
        }
        if (requestList.size() >= MAX_REQUESTS || (mode == NAVIGATES && from.parent != null)) {
            throw new IllegalStateException("this request is not possible now");
        }
        int used = mode == NAVIGATES ? ALWAYS : credentials;
        Request made = new Request(from, method, mode, used, hasHeader);
        requestList.add(made);
        for (int i = 0; i < MAX_HOPS && next != null; i++) {
            next = takeHop(made, next);
        }
        return judge(made);
    }

    public int pass(int ticks) throws IllegalArgumentException {
        if (ticks < 1 || ticks > MAX_TICKS) {
            throw new IllegalArgumentException("no such ticks");
        }
        now += ticks;
        jar.dropGone(now);
        dropGonePreflights();
        return now;
    }

    private Page pageAt(int number) {
        if (number < 0 || number >= pageList.size()) {
            throw new IndexOutOfBoundsException("no such page");
        }
        return pageList.get(number);
    }

    /** Takes one hop; the answer is the address of the next one, null if the request ends here. */
    private Address takeHop(Request request, Address told) {
        Address address = unmixed(request, told);
        request.isFromAfar = request.isFromAfar || address.siteCode() != request.page.address.siteCode();
        Hop hop = new Hop(request, address);
        request.chain.add(hop);
        if (isMixed(request, address)) {
            return null;
        }
        boolean isAskedAcross = request.mode == ASKED && isCross(request, hop);
        hop.isRefusedByPreflight = isAskedAcross && !passesPreflight(request, hop);
        if (hop.isRefusedByPreflight) {
            return null;
        }
        boolean isWithCredentials = usesCredentials(request, hop);
        pool.use(hop.address, isWithCredentials, hop.partition, now);
        if (isWithCredentials) {
            jar.send(hop, isBlocking);
            jar.take(hop, isBlocking, now);
        }
        hop.isLet = !isAskedAcross || isLetByAnswer(request, hop);
        return hop.isLet ? follow(request, hop) : null;
    }

    private static boolean isMixed(Request request, Address address) {
        return request.page.address.scheme == HTTPS && address.scheme == HTTP && request.mode != NAVIGATES;
    }

    private Address unmixed(Request request, Address told) {
        if (request.mode != FREE || !isMixed(request, told)) {
            return told;
        }
        Address safe = findAddress(HTTPS, told.host, told.port, told.path);
        return safe == null ? told : safe;
    }

    private static boolean isCross(Request request, Hop hop) {
        return hop.isTainted || hop.address.origin() != request.page.address.origin();
    }

    private static boolean usesCredentials(Request request, Hop hop) {
        return request.credentials == ALWAYS || (request.credentials == TO_SAME_ORIGIN && !isCross(request, hop));
    }

    private static boolean isLetByAnswer(Request request, Hop hop) {
        Address address = hop.address;
        boolean isAlways = request.credentials == ALWAYS;
        if (address.allowedOrigins == ALL_ORIGINS) {
            return !isAlways;
        }
        if (isAlways && !address.allowsCredentials) {
            return false;
        }
        if (address.allowedOrigins == THE_TAINT) {
            return hop.isTainted;
        }
        return !hop.isTainted && address.allowedOrigins == request.page.address.origin();
    }

    private static Address follow(Request request, Hop hop) {
        Address to = hop.address.redirectsTo;
        if (to == null) {
            return null;
        }
        hop.isRedirected = true;
        if (request.mode == ASKED && isCross(request, hop) && to.origin() != hop.address.origin()) {
            request.isTainted = true;
        }
        if (becomesGet(request.method, hop.address.status)) {
            request.method = GET;
        }
        return to;
    }

    private static boolean becomesGet(int method, int status) {
        if (status == STATUS_303) {
            return true;
        }
        return status <= STATUS_302 && method == POST;
    }

    private boolean passesPreflight(Request request, Hop hop) {
        int needed = (hop.method == PUT ? ALLOWS_PUT : 0) | (request.hasHeader ? ALLOWS_HEADERS : 0);
        if (needed == 0) {
            return true;
        }
        Preflight asked = new Preflight(request, hop, now);
        Preflight kept = findKept(asked);
        if (kept != null && (kept.others & needed) == needed) {
            return true;
        }
        preflightCount++;
        pool.use(hop.address, false, hop.partition, now);
        if ((asked.others & needed) != needed || !isLetByAnswer(request, hop)) {
            return false;
        }
        if (hop.address.allowedAge > 0) {
            keep(asked);
        }
        return true;
    }

    private Preflight findKept(Preflight asked) {
        for (int i = 0; i < keptPreflights.size(); i++) {
            Preflight kept = keptPreflights.get(i);
            if (kept.isForSame(asked)) {
                return kept;
            }
        }
        return null;
    }

    private void keep(Preflight granted) {
        for (int i = 0; i < keptPreflights.size(); i++) {
            if (keptPreflights.get(i).isForSame(granted)) {
                keptPreflights.set(i, granted);
                return;
            }
        }
        keptPreflights.add(granted);
    }

    private void dropGonePreflights() {
        for (int i = keptPreflights.size() - 1; i >= 0; i--) {
            if (now >= keptPreflights.get(i).goneAt) {
                keptPreflights.remove(i);
            }
        }
    }

    /** How the request ended, from the addresses of its hops and what each answer let. */
    private static int judge(Request request) {
        boolean wasCross = false;
        for (int i = 0; i < request.chain.size(); i++) {
            Hop hop = request.chain.get(i);
            if (isMixed(request, hop.address)) {
                return REFUSED_FOR_MIXING;
            }
            if (hop.isRefusedByPreflight) {
                return REFUSED_BY_PREFLIGHT;
            }
            if (!hop.isLet) {
                return REFUSED_BY_ANSWER;
            }
            if (i == MAX_HOPS - 1 && hop.isRedirected) {
                return REFUSED_FOR_REDIRECTS;
            }
            wasCross = wasCross || isCross(request, hop);
        }
        return request.mode == FREE && wasCross ? OPAQUE : READABLE;
    }

    // ---- what was done

    public int hops(int request) throws IndexOutOfBoundsException {
        return requestAt(request).chain.size();
    }

    public int hop(int request, int hop) throws IndexOutOfBoundsException {
        Hop found = hopAt(request, hop);
        return 1000 * found.address.number + 100 * found.method + (found.isTainted ? 10 : 0) + found.referrer;
    }

    public int sent(int request, int hop, int place) throws IndexOutOfBoundsException {
        Hop found = hopAt(request, hop);
        if (place < 0) {
            throw new IndexOutOfBoundsException("no such place");
        }
        return place < found.sentCount && place < found.sentCookies.length ? found.sentCookies[place] : -1;
    }

    public int judged(int request) throws IndexOutOfBoundsException {
        return judge(requestAt(request));
    }

    public int cookies() {
        return jar.kept.size();
    }

    public int cookie(int cookie) throws IndexOutOfBoundsException {
        if (cookie < 0 || cookie >= jar.kept.size()) {
            throw new IndexOutOfBoundsException("no such cookie");
        }
        Cookie found = jar.kept.get(cookie);
        int partitioned = found.partition == NO_PARTITION ? 0 : 50000000;
        return partitioned + 100000 * found.host.number + found.line.nameAndValue();
    }

    public int count(int what) throws IllegalArgumentException {
        switch (what) {
            case 0:
                return pool.openedCount;
            case 1:
                return pool.open.size();
            case 2:
                return preflightCount;
            default:
                throw new IllegalArgumentException("nothing that is counted");
        }
    }

    private Request requestAt(int number) {
        if (number < 0 || number >= requestList.size()) {
            throw new IndexOutOfBoundsException("no such request");
        }
        return requestList.get(number);
    }

    private Hop hopAt(int request, int number) {
        Request found = requestAt(request);
        if (number < 0 || number >= found.chain.size()) {
            throw new IndexOutOfBoundsException("no such hop");
        }
        return found.chain.get(number);
    }

    private static final class Host {
        private final int number;
        private final Host parent;
        private final int label;
        private final int above;
        private boolean isSuffix;

        private Host(int number, Host parent, int label, int above) {
            this.number = number;
            this.parent = parent;
            this.label = label;
            this.above = above;
        }

        private Host siteHost() {
            Host reached = this;
            while (!reached.isSuffix && reached.parent != null && !reached.parent.isSuffix) {
                reached = reached.parent;
            }
            return reached;
        }

        /** Whether it is the other host, or lies under it. */
        private boolean isIn(Host other) {
            for (Host reached = this; reached != null; reached = reached.parent) {
                if (reached == other) {
                    return true;
                }
            }
            return false;
        }

        private void appendTo(StringBuilder whole) {
            for (Host reached = this; reached != null; reached = reached.parent) {
                if (reached != this) {
                    whole.append('.');
                }
                int pair = reached.label - LETTERS;
                if (pair >= 0) {
                    whole.append((char) ('a' + pair / LETTERS));
                }
                whole.append((char) ('a' + (pair >= 0 ? pair % LETTERS : reached.label)));
            }
        }
    }

    /** An address, with what its answers tell. */
    private static final class Address {
        private final int number;
        private final int scheme;
        private final Host host;
        private final int port;
        private final int path;
        private final String whole;
        private Address redirectsTo;
        private int status;
        private int allowedOrigins;
        private boolean allowsCredentials;
        private int allowedOthers;
        private int allowedAge;
        private CookieLine line;

        private Address(int number, int scheme, Host host, int port, int path) {
            this.number = number;
            this.scheme = scheme;
            this.host = host;
            this.port = port;
            this.path = path;
            this.whole = write(scheme, host, port, path);
            this.allowedOrigins = NO_ORIGIN;
        }

        private static String write(int scheme, Host host, int port, int path) {
            StringBuilder whole = new StringBuilder();
            whole.append(scheme == HTTPS ? "https://" : "http://");
            host.appendTo(whole);
            if (port != 0) {
                whole.append(':').append(port);
            }
            int power = path >= 100 ? 100 : path >= 10 ? 10 : 1;
            for (int rest = power; rest >= 1 && path > 0; rest /= 10) {
                whole.append('/').append(path / rest % 10);
            }
            if (path == 0) {
                whole.append('/');
            }
            return whole.toString();
        }

        /** A number that only the addresses of the same origin have; never below 0. */
        private int origin() {
            int usual = scheme == HTTPS ? 443 : 80;
            return (2 * host.number + scheme) * PORTS + (port == 0 ? usual : port);
        }

        /** A number that only the addresses of the same site have now; never below 0. */
        private int siteCode() {
            return 2 * host.siteHost().number + scheme;
        }
    }

    private static final class Page {
        private final Address address;
        private final Page parent;
        private final int policy;

        private Page(Address address, Page parent, int policy) {
            this.address = address;
            this.parent = parent;
            this.policy = policy;
        }

        private Page top() {
            Page reached = this;
            while (reached.parent != null) {
                reached = reached.parent;
            }
            return reached;
        }

        private boolean isForeign() {
            int own = address.siteCode();
            for (Page reached = parent; reached != null; reached = reached.parent) {
                if (reached.address.siteCode() != own) {
                    return true;
                }
            }
            return false;
        }

        private int referrerTo(Address to) {
            boolean isSameOrigin = address.origin() == to.origin();
            switch (policy) {
                case 1:
                    return REFERS_ORIGIN;
                case 2:
                    return isSameOrigin ? REFERS_WHOLE : REFERS_NOTHING;
                case 3:
                    if (isSameOrigin) {
                        return REFERS_WHOLE;
                    }
                    return address.scheme == HTTPS && to.scheme == HTTP ? REFERS_NOTHING : REFERS_ORIGIN;
                case 4:
                    return REFERS_WHOLE;
                default:
                    return REFERS_NOTHING;
            }
        }
    }

    /** A request; method, taint and distance are those of the hop that it has reached. */
    private static final class Request {
        private final Page page;
        private final int mode;
        private final int credentials;
        private final boolean hasHeader;
        private final ArrayList<Hop> chain;
        private int method;
        private boolean isTainted;
        private boolean isFromAfar;

        private Request(Page page, int method, int mode, int credentials, boolean hasHeader) {
            this.page = page;
            this.mode = mode;
            this.credentials = credentials;
            this.hasHeader = hasHeader;
            this.chain = new ArrayList<Hop>();
            this.method = method;
            // One that navigates is from afar by its hops alone.
            this.isFromAfar = mode != NAVIGATES && page.isForeign();
        }
    }

    private static final class Hop {
        private final Address address;
        private final int method;
        private final boolean isTainted;
        private final boolean isFromAfar;
        private final boolean navigates;
        private final int partition;
        private final int referrer;
        private final int[] sentCookies;
        private int sentCount;
        private boolean isRefusedByPreflight;
        private boolean isLet;
        private boolean isRedirected;

        private Hop(Request request, Address address) {
            this.address = address;
            this.method = request.method;
            this.isTainted = request.isTainted;
            this.isFromAfar = request.isFromAfar;
            this.navigates = request.mode == NAVIGATES;
            this.partition = navigates ? address.siteCode() : request.page.top().address.siteCode();
            this.referrer = request.page.referrerTo(address);
            this.sentCookies = new int[MAX_COOKIES];
        }

        private void noteSent(Cookie cookie) {
            if (sentCount < sentCookies.length) {
                sentCookies[sentCount] = cookie.line.nameAndValue();
                sentCount++;
            }
        }
    }

    /** A preflight as it would be kept if it is granted. */
    private static final class Preflight {
        private final int origin;
        private final Address address;
        private final boolean isAlways;
        private final int partition;
        private final int others;
        private final int goneAt;

        private Preflight(Request request, Hop hop, int now) {
            // The taint stands in the place of the page's origin, which does not count then.
            this.origin = hop.isTainted ? THE_TAINT : request.page.address.origin();
            this.address = hop.address;
            this.isAlways = request.credentials == ALWAYS;
            this.partition = hop.partition;
            this.others = hop.address.allowedOthers;
            this.goneAt = now + hop.address.allowedAge;
        }

        private boolean isForSame(Preflight other) {
            return origin == other.origin && address == other.address
                    && isAlways == other.isAlways && partition == other.partition;
        }
    }

    /** The cookie that an address sets, as it was told. */
    private static final class CookieLine {
        private final int name;
        private final int value;
        private final Host domain;
        private final int path;
        private final int flags;
        private final int age;

        private CookieLine(int name, int value, Host domain, int path, int flags, int age) {
            this.name = name;
            this.value = value;
            this.domain = domain;
            this.path = path;
            this.flags = flags;
            this.age = age;
        }

        private boolean has(int flag) {
            return (flags & flag) != 0;
        }

        private boolean isLaxOrStrict() {
            return has(LAX) || has(STRICT);
        }

        private int nameAndValue() {
            return 1000 * name + value;
        }
    }

    private static final class Cookie {
        private final CookieLine line;
        private final Host host;
        private final boolean isForHostAlone;
        private final int partition;
        private final int goneAt;
        private int lastUse;

        /** The cookie of the hop's answer, which sets the line. */
        private Cookie(CookieLine line, Hop hop, int now) {
            Host own = hop.address.host;
            this.line = line;
            this.isForHostAlone = line.domain == null || (line.domain.isSuffix && line.domain == own);
            this.host = isForHostAlone ? own : line.domain;
            this.partition = line.has(PARTITIONED) ? hop.partition : NO_PARTITION;
            this.goneAt = now + line.age;
        }

        private boolean isGone(int now) {
            return line.age != STAYS && now >= goneAt;
        }

        private boolean isSame(Cookie other) {
            return line.name == other.line.name && host == other.host
                    && line.path == other.line.path && partition == other.partition;
        }

        private boolean sharesLimitWith(Cookie other) {
            return partition == other.partition && host.siteHost() == other.host.siteHost();
        }

        private boolean goesBefore(Cookie other) {
            boolean isSecure = line.has(SECURE);
            return isSecure == other.line.has(SECURE) ? lastUse < other.lastUse : !isSecure;
        }

        private boolean isSeenAt(Hop hop) {
            return partition == NO_PARTITION || partition == hop.partition;
        }
    }

    /** The cookies that there are, in the order in which they were made. */
    private static final class Jar {
        private final ArrayList<Cookie> kept;
        private int lastUse;

        private Jar() {
            kept = new ArrayList<Cookie>();
        }

        private void dropGone(int now) {
            for (int i = kept.size() - 1; i >= 0; i--) {
                if (kept.get(i).isGone(now)) {
                    kept.remove(i);
                }
            }
        }

        private void noteUse(Cookie cookie) {
            lastUse++;
            cookie.lastUse = lastUse;
        }

        private void send(Hop hop, boolean isBlocking) {
            for (int segments = MAX_SEGMENTS; segments >= 0; segments--) {
                for (int i = 0; i < kept.size(); i++) {
                    Cookie cookie = kept.get(i);
                    if (countSegments(cookie.line.path) == segments && isSent(cookie, hop, isBlocking)) {
                        hop.noteSent(cookie);
                        noteUse(cookie);
                    }
                }
            }
        }

        private static boolean isSent(Cookie cookie, Hop hop, boolean isBlocking) {
            Address to = hop.address;
            boolean isForHost = cookie.host == to.host || (!cookie.isForHostAlone && to.host.isIn(cookie.host));
            if (!isForHost || !beginsWith(to.path, cookie.line.path) || !cookie.isSeenAt(hop)) {
                return false;
            }
            if (cookie.line.has(SECURE) && to.scheme != HTTPS) {
                return false;
            }
            return !hop.isFromAfar || isSentFromAfar(cookie, hop, isBlocking);
        }

        private static boolean isSentFromAfar(Cookie cookie, Hop hop, boolean isBlocking) {
            if (isBlocking && !hop.navigates && cookie.partition == NO_PARTITION) {
                return false;
            }
            if (!cookie.line.isLaxOrStrict()) {
                return true;
            }
            return !cookie.line.has(STRICT) && hop.navigates && hop.method == GET;
        }

        /** Sets the cookie that the hop's answer sets, if there is one and it is not refused. */
        private void take(Hop hop, boolean isBlocking, int now) {
            CookieLine line = hop.address.line;
            if (line == null) {
                return;
            }
            Cookie made = new Cookie(line, hop, now);
            if (!isForOwnHost(made, hop) || isUnsafe(line, hop) || isTooFar(line, hop, isBlocking)
                    || isUnderSecureOne(made, hop)) {
                return;
            }
            int place = placeOfSame(made);
            if (line.age == GOES_AT_ONCE) {
                removeAt(place);
                return;
            }
            put(made, place);
            trim(made, MAX_SITE_COOKIES);
            trim(null, MAX_COOKIES);
        }

        private static boolean isForOwnHost(Cookie made, Hop hop) {
            return made.isForHostAlone || (!made.host.isSuffix && hop.address.host.isIn(made.host));
        }

        private static boolean isUnsafe(CookieLine line, Hop hop) {
            if (line.has(SECURE)) {
                boolean isBoundBadly = line.has(HOST_PREFIX) && (line.domain != null || line.path != 0);
                return hop.address.scheme == HTTP || isBoundBadly;
            }
            return !line.isLaxOrStrict() || line.has(PARTITIONED) || line.has(SECURE_PREFIX) || line.has(HOST_PREFIX);
        }

        private static boolean isTooFar(CookieLine line, Hop hop, boolean isBlocking) {
            if (!hop.isFromAfar || hop.navigates) {
                return false;
            }
            return line.isLaxOrStrict() || (isBlocking && !line.has(PARTITIONED));
        }

        private boolean isUnderSecureOne(Cookie made, Hop hop) {
            if (hop.address.scheme != HTTP) {
                return false;
            }
            for (int i = 0; i < kept.size(); i++) {
                Cookie cookie = kept.get(i);
                boolean isNear = cookie.host.isIn(made.host) || made.host.isIn(cookie.host);
                if (cookie.line.has(SECURE) && cookie.line.name == made.line.name && cookie.isSeenAt(hop)
                        && isNear && beginsWith(made.line.path, cookie.line.path)) {
                    return true;
                }
            }
            return false;
        }

        private int placeOfSame(Cookie made) {
            for (int i = 0; i < kept.size(); i++) {
                if (kept.get(i).isSame(made)) {
                    return i;
                }
            }
            return -1;
        }

        private void removeAt(int place) {
            if (place >= 0 && place < kept.size()) {
                kept.remove(place);
            }
        }

        private void put(Cookie made, int place) {
            noteUse(made);
            if (place >= 0 && place < kept.size()) {
                kept.set(place, made);
            } else {
                kept.add(made);
            }
        }

        /** Lets the oldest go of those that share the limit with this one, or, with null, of all. */
        private void trim(Cookie sharing, int limit) {
            int left = 0;
            for (int i = 0; i < kept.size(); i++) {
                if (sharing == null || kept.get(i).sharesLimitWith(sharing)) {
                    left++;
                }
            }
            for (; left > limit; left--) {
                removeAt(placeToGo(sharing));
            }
        }

        private int placeToGo(Cookie sharing) {
            int place = -1;
            Cookie first = null;
            for (int i = 0; i < kept.size(); i++) {
                Cookie cookie = kept.get(i);
                boolean isInQuestion = sharing == null || cookie.sharesLimitWith(sharing);
                if (isInQuestion && (first == null || cookie.goesBefore(first))) {
                    place = i;
                    first = cookie;
                }
            }
            return place;
        }
    }

    private static final class Connection {
        private final int origin;
        private final boolean hasCredentials;
        private final int partition;
        private int lastTick;

        private Connection(int origin, boolean hasCredentials, int partition) {
            this.origin = origin;
            this.hasCredentials = hasCredentials;
            this.partition = partition;
        }
    }

    /** The open connections, the one that was used the longest time ago first. */
    private static final class Pool {
        private final ArrayList<Connection> open;
        private int openedCount;

        private Pool() {
            open = new ArrayList<Connection>();
        }

        private void use(Address address, boolean hasCredentials, int partition, int now) {
            int place = placeOf(address.origin(), hasCredentials, partition);
            Connection used = null;
            if (place >= 0 && place < open.size()) {
                used = open.remove(place);
            }
            if (used == null || now - used.lastTick > MAX_IDLE_TICKS) {
                used = new Connection(address.origin(), hasCredentials, partition);
                openedCount++;
            }
            if (open.size() >= MAX_CONNECTIONS) {
                open.remove(0);
            }
            used.lastTick = now;
            open.add(used);
        }

        private int placeOf(int origin, boolean hasCredentials, int partition) {
            for (int i = 0; i < open.size(); i++) {
                Connection connection = open.get(i);
                if (connection.origin == origin && connection.hasCredentials == hasCredentials
                        && connection.partition == partition) {
                    return i;
                }
            }
            return -1;
        }
    }
}
