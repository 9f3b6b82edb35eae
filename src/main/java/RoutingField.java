import java.util.NoSuchElementException;

/** Routers on links that tell each other how far all networks are, in datagrams of two families. */
public final class RoutingField {
    public static final int NONE = -1;

    private static final int TAPE_ROOM = 4096;
    private static final int CONFIG_ROOM = 40000;
    private static final int LAST_TIME = 20000;
    private static final int MOST_TICKS = 2000;
    private static final int MOST_LINKS = 10;
    private static final int MOST_ROUTERS = 6;
    private static final int MOST_PORTS = 4;
    private static final int MOST_LISTS = 8;
    private static final int MOST_LIST_ENTRIES = 16;
    private static final int MOST_FILTERS = 32;
    private static final int MOST_STATICS = 32;
    private static final int MOST_POLICIES = 8;
    private static final int MOST_OF_PORT = 4;
    private static final int MOST_KEYS = 4;
    private static final int MOST_WORDS = 24;
    private static final int MOST_FLYING = 256;
    private static final int MOST_PUT = 564;
    private static final int MOST_OF_FAMILY = 60;
    private static final int MOST_ENTRIES = 25;
    private static final int MOST_CAME_ENTRIES_4 = 28;

    private static final int HEAD = 4;
    private static final int ENTRY = 20;
    private static final int DATAGRAM_ROOM = 600;
    private static final int REQUEST = 1;
    private static final int RESPONSE = 2;
    private static final int DEAD = 16;
    private static final int NEXT_HOP = 255;
    private static final int FULL_HOPS = 255;

    private static final int CONNECTED = 0;
    private static final int STATIC = 1;
    private static final int LEARNED = 2;

    private static final int SPLIT_OFF = 0;
    private static final int SPLIT_SIMPLE = 1;
    private static final int SPLIT_POISON = 2;

    private static final int IN = 0;
    private static final int OUT = 1;

    private static final int OWN = 0;
    private static final int OFF = -1;

    private static final int UPDATE = 0;
    private static final int TIMEOUT = 1;
    private static final int GARBAGE = 2;

    private static final int TELL_ALL = 0;
    private static final int TELL_CHANGED = 1;
    private static final int TELL_END = 2;

    private static final int CAME = 0;
    private static final int BAD_SOURCE = 1;
    private static final int BAD_FORM = 2;
    private static final int BAD_KEY = 3;
    private static final int IGNORED = 4;
    private static final int SENT = 5;
    private static final int TRIGGERS = 6;
    private static final int CHANGES = 7;
    private static final int REQUESTS = 8;
    private static final int BAD_PORT = 9;
    private static final int BAD_HOPS = 10;
    private static final int COUNTS = 11;

    private static final int SOUND = NONE;

    private static final int BAD_WORD = 1;
    private static final int BAD_SHAPE = 2;
    private static final int BAD_NAME = 3;
    private static final int BAD_NUMBER = 4;
    private static final int BAD_ADDRESS = 5;
    private static final int TOO_MANY = 6;

    private final Bytes tape = new Bytes(64);
    private Bytes text = new Bytes(64);
    private Bytes page = new Bytes(64);
    // Made when first needed: it knows the field, which a constructor must not hand out.
    private Reader reader = null;
    private int faultOfRead = 0;
    private int time = 0;
    private final Link[] links = new Link[MOST_LINKS];
    private int linkTotal = 0;
    private final Router[] routers = new Router[MOST_ROUTERS];
    private int routerTotal = 0;
    private final PrefixList[] lists = new PrefixList[MOST_LISTS];
    private int listTotal = 0;
    private final Datagram[] flights = new Datagram[MOST_FLYING];
    private int flightTotal = 0;
    // Besides those on their way one may just be coming, and one is always being written.
    private final Datagram[] spares = new Datagram[MOST_FLYING + 2];
    private int spareTotal = 0;
    private Datagram draft = new Datagram();
    private final Table told = new Table();
    private final Prefix entry = new Prefix();
    private final Prefix hop = new Prefix();

    public RoutingField() {
    }

    public boolean feed(int a, int b, int c, int d, int e) {
        if (tape.length + 20 > TAPE_ROOM) {
            return false;
        }
        tape.addNumber(a, 4);
        tape.addNumber(b, 4);
        tape.addNumber(c, 4);
        tape.addNumber(d, 4);
        tape.addNumber(e, 4);
        return true;
    }

    public boolean end(int n) {
        if (n < 0 || n > tape.length) {
            return false;
        }
        tape.length = n;
        return true;
    }

    public int read() {
        int lines = 0;
        int from = 0;
        faultOfRead = 0;
        if (reader == null) {
            reader = new Reader(this);
        }
        while (from < tape.length && faultOfRead == 0) {
            int to = from;
            while (to < tape.length && tape.at(to) != '\n') {
                to++;
            }
            faultOfRead = reader.doLine(from, to);
            from = to + 1;
            lines++;
        }
        tape.clear();
        return faultOfRead == 0 ? lines : -1 - lines;
    }

    public int fault() {
        return faultOfRead;
    }

    public int ticks(int n) {
        if (n < 0 || n > MOST_TICKS || time + n > LAST_TIME) {
            return NONE;
        }
        for (int i = 0; i < n; i++) {
            time++;
            bringDue();
            for (int r = 0; r < routerTotal; r++) {
                if (routers[r].running) {
                    routers[r].takeTurn();
                }
            }
        }
        return time;
    }

    public boolean link(int link, boolean up) {
        Link which = linkAt(link);
        if (which == null || which.up == up) {
            return false;
        }
        which.up = up;
        if (up) {
            raise(which);
        } else {
            dropFlights(which);
            lower(which);
        }
        return true;
    }

    public boolean lose(int link, int n) {
        Link which = linkAt(link);
        if (which == null || n < 0) {
            return false;
        }
        which.toLose = n;
        return true;
    }

    public boolean run(int router, boolean on) {
        Router which = routerAt(router);
        if (which == null || which.running == on) {
            return false;
        }
        if (on) {
            which.start();
        } else {
            which.stop();
        }
        return true;
    }

    public boolean put(int link, int family, int port, int hops) {
        Link which = linkAt(link);
        int head = family == 4 ? 4 : 16;
        int size = tape.length - head;
        boolean goes = (family == 4 || family == 6) && which != null && which.up
                && size >= 0 && size <= MOST_PUT && size <= which.mtu;
        if (goes) {
            draft.bytes.clear();
            draft.bytes.addPart(tape, head, tape.length);
            draft.source.takeBytes(tape, 0, family);
            draft.family = family;
            draft.port = port;
            draft.hops = hops;
            draft.toAll = true;
            draft.sender = null;
            launch(which);
        }
        tape.clear();
        return goes;
    }

    public int show(int router, int what) {
        Router which = routerAt(router);
        if (which == null || what < 0 || what > 3) {
            return NONE;
        }
        text.clear();
        if (what == 0) {
            writeRoutes(which);
        } else if (what == 1) {
            writePorts(which);
        } else if (what == 2) {
            writeCounts(which);
        } else {
            writeTimes(which);
        }
        return text.length;
    }

    public int config() {
        page.clear();
        for (int i = 0; i < linkTotal; i++) {
            writeLink(links[i]);
        }
        for (int i = 0; i < listTotal; i++) {
            writeList(lists[i]);
        }
        for (int i = 0; i < routerTotal; i++) {
            writeRouter(routers[i]);
        }
        if (page.length > CONFIG_ROOM) {
            return NONE;
        }
        Bytes old = text;
        text = page;
        page = old;
        return text.length;
    }

    public int oracle(int router) {
        Router which = routerAt(router);
        boolean right = hop.parseAddress(tape, 0, tape.length);
        tape.clear();
        if (!right || which == null || !which.running) {
            return NONE;
        }
        entry.length = NONE;
        for (int r = 0; r < routerTotal; r++) {
            if (routers[r].running) {
                routers[r].findLongestOwn(hop, entry);
            }
        }
        return entry.length == NONE ? NONE : leastSum(which.number);
    }

    public int way(int router) {
        Router which = routerAt(router);
        boolean right = hop.parseAddress(tape, 0, tape.length);
        tape.clear();
        Route best = null;
        if (right && which != null) {
            best = which.longestAlive(hop);
        }
        if (best == null) {
            return NONE;
        }
        text.clear();
        writeRoute(best);
        return text.length;
    }

    public int seen(int link) {
        Link which = linkAt(link);
        if (which == null) {
            return NONE;
        }
        text.clear();
        text.addPart(which.latest, 0, which.latest.length);
        return text.length;
    }

    public int textAt(int i) throws NoSuchElementException {
        if (i < 0 || i >= text.length) {
            throw new NoSuchElementException("no such byte of the text");
        }
        return text.at(i);
    }

    public int count(int router, int what) {
        Router which = routerAt(router);
        if (which == null || what < 0 || what >= COUNTS) {
            return NONE;
        }
        return which.counts[what];
    }

    public int routes(int router) {
        Router which = routerAt(router);
        return which == null ? NONE : which.table.total;
    }

    public int flying() {
        return flightTotal;
    }

    public int now() {
        return time;
    }

    private Link linkAt(int i) {
        return i < 0 || i >= linkTotal ? null : links[i];
    }

    private Router routerAt(int i) {
        return i < 0 || i >= routerTotal ? null : routers[i];
    }

    // ---- links and what flies on them

    private void raise(Link link) {
        for (int r = 0; r < routerTotal; r++) {
            Port port = routers[r].portOn(link);
            if (port != null) {
                routers[r].settlePort(port);
            }
        }
        for (int r = 0; r < routerTotal; r++) {
            Port port = routers[r].portOn(link);
            if (port != null && routers[r].running) {
                routers[r].ask(port, 4);
                routers[r].ask(port, 6);
            }
        }
    }

    private void lower(Link link) {
        for (int r = 0; r < routerTotal; r++) {
            Port port = routers[r].portOn(link);
            if (port != null && routers[r].running) {
                routers[r].loseLearned(port);
                routers[r].settlePort(port);
            }
        }
    }

    private void dropFlights(Link link) {
        int kept = 0;
        for (int i = 0; i < flightTotal; i++) {
            if (flights[i].link == link) {
                giveBack(flights[i]);
            } else {
                flights[kept] = flights[i];
                kept++;
            }
        }
        flightTotal = kept;
    }

    private void giveBack(Datagram datagram) {
        if (spareTotal < spares.length) {
            spares[spareTotal] = datagram;
            spareTotal++;
        }
    }

    /** Sends the draft; a new draft takes its place when it is on its way. */
    private void launch(Link link) {
        int wait = link.delay + (int) (3L * link.sent % (link.jitter + 1));
        link.sent++;
        link.latest.clear();
        link.latest.addPart(draft.bytes, 0, draft.bytes.length);
        if (draft.sender != null) {
            draft.sender.counts[SENT]++;
        }
        if (flightTotal >= MOST_FLYING) {
            return;
        }
        if (draft.sender != null && link.toLose > 0) {
            link.toLose--;
            return;
        }
        draft.link = link;
        draft.due = time + wait;
        flights[flightTotal] = draft;
        flightTotal++;
        if (spareTotal > 0) {
            spareTotal--;
            draft = spares[spareTotal];
        } else {
            draft = new Datagram();
        }
    }

    private void bringDue() {
        int all = flightTotal;
        int at = 0;
        // What is sent meanwhile stands behind these and comes later than now.
        for (int n = 0; n < all; n++) {
            Datagram datagram = flights[at];
            if (datagram.due > time) {
                at++;
                continue;
            }
            takeOut(at);
            for (int r = 0; r < routerTotal; r++) {
                Router router = routers[r];
                Port port = router.hearer(datagram);
                if (port == null) {
                    continue;
                }
                router.counts[CAME]++;
                int bad = router.judge(datagram, port);
                if (bad != SOUND) {
                    router.counts[bad]++;
                } else if (datagram.bytes.at(0) == REQUEST) {
                    router.answer(datagram, port);
                } else {
                    router.hearResponse(datagram, port);
                }
                if (!datagram.toAll) {
                    break;
                }
            }
            giveBack(datagram);
        }
    }

    private void takeOut(int at) {
        flightTotal--;
        for (int i = at; i < flightTotal; i++) {
            flights[i] = flights[i + 1];
        }
    }

    /** The least sum from a router to the prefix that stands in entry. */
    private int leastSum(int asked) {
        int[] sums = new int[MOST_ROUTERS];
        for (int r = 0; r < routerTotal; r++) {
            sums[r] = routers[r].ownSum(entry);
        }
        for (int round = 0; round < routerTotal; round++) {
            for (int r = 0; r < routerTotal; r++) {
                if (routers[r].running && routers[r].ownSum(entry) == DEAD) {
                    sums[r] = Math.min(sums[r], sumByNeighbors(routers[r], sums));
                }
            }
        }
        return Math.min(DEAD, sums[asked]);
    }

    private int sumByNeighbors(Router router, int[] sums) {
        int least = DEAD;
        for (int p = 0; p < router.portTotal; p++) {
            Port port = router.ports[p];
            if (!port.link.up || port.addressOf(entry.family) == null) {
                continue;
            }
            for (int r = 0; r < routerTotal; r++) {
                Port other = routers[r].portOn(port.link);
                if (other != null && routers[r].running && other.addressOf(entry.family) != null) {
                    least = Math.min(least, sums[r] + port.cost);
                }
            }
        }
        return least;
    }

    // ---- texts

    private void writeRoute(Route route) {
        text.word("");
        text.addPrefix(route.prefix);
        text.wordNumber(route.metric);
        if (route.kind == STATIC) {
            text.word("static");
            return;
        }
        if (route.kind == CONNECTED) {
            text.word("direct");
        } else {
            text.word("via");
            text.word("");
            text.addAddress(route.gateway);
        }
        text.word(route.port == null ? "-" : route.port.link.name);
    }

    private void writeRoutes(Router router) {
        for (int i = 0; i < router.table.total; i++) {
            writeRoute(router.table.rows[i]);
            text.endLine();
        }
    }

    private void writePorts(Router router) {
        for (int p = 0; p < router.portTotal; p++) {
            Port port = router.ports[p];
            text.word(port.link.name);
            text.word(port.link.up ? "up" : "down");
            text.word("cost");
            text.wordNumber(port.cost);
            text.word(splitWord(port.split));
            text.word(port.chain.kindWord());
            if (port.passive) {
                text.word("passive");
            }
            for (int family = 4; family <= 6; family += 2) {
                Prefix address = port.addressOf(family);
                if (address != null) {
                    text.word("");
                    text.addPrefix(address);
                }
            }
            text.endLine();
        }
    }

    private void writeCounts(Router router) {
        for (int i = 0; i < COUNTS; i++) {
            text.wordNumber(i);
            text.wordNumber(router.counts[i]);
            text.endLine();
        }
    }

    private void writeTimes(Router router) {
        for (int i = 0; i < router.table.total; i++) {
            Route route = router.table.rows[i];
            text.word("");
            text.addPrefix(route.prefix);
            if (route.kind == LEARNED) {
                text.wordNumber(route.deadline - time);
            } else {
                text.word("-");
            }
            if (route.changed) {
                text.word("changed");
            }
            text.endLine();
        }
    }

    private static String splitWord(int split) {
        if (split == SPLIT_OFF) {
            return "off";
        }
        return split == SPLIT_SIMPLE ? "simple" : "poison";
    }

    private static String sideWord(int side) {
        return side == IN ? "in" : "out";
    }

    private void writeLink(Link link) {
        page.word("link");
        page.word(link.name);
        page.wordNumber(link.delay);
        page.word("jitter");
        page.wordNumber(link.jitter);
        page.word("mtu");
        page.wordNumber(link.mtu);
        page.endLine();
    }

    private void writeList(PrefixList list) {
        for (int i = 0; i < list.total; i++) {
            page.word("list");
            page.word(list.name);
            page.word(list.permits[i] ? "permit" : "deny");
            page.word("");
            page.addPrefix(list.prefixes[i]);
            if (list.least[i] != NONE) {
                page.word("ge");
                page.wordNumber(list.least[i]);
            }
            if (list.most[i] != NONE) {
                page.word("le");
                page.wordNumber(list.most[i]);
            }
            page.endLine();
        }
    }

    private void writeRouter(Router router) {
        page.word("router");
        page.word(router.name);
        page.endLine();
        page.word("timers");
        page.word(router.name);
        page.wordNumber(router.timers[UPDATE]);
        page.wordNumber(router.timers[TIMEOUT]);
        page.wordNumber(router.timers[GARBAGE]);
        page.endLine();
        for (int p = 0; p < router.portTotal; p++) {
            writeJoins(router, router.ports[p]);
            writeKeys(router, router.ports[p]);
        }
        writeStatics(router);
        writeFilters(router, IN);
        writeFilters(router, OUT);
        writePolicies(router, "distribute", router.distributes, router.distributeTotal);
        writePolicies(router, "offset", router.offsets, router.offsetTotal);
        for (int p = 0; p < router.portTotal; p++) {
            writeExtras(router, router.ports[p]);
        }
        writeShare(router, CONNECTED);
        writeShare(router, STATIC);
    }

    private void writeJoins(Router router, Port port) {
        boolean first = true;
        for (int family = 4; family <= 6; family += 2) {
            Prefix address = port.addressOf(family);
            if (address == null) {
                continue;
            }
            beginPortLine("join", router, port);
            page.word("");
            page.addPrefix(address);
            if (first) {
                page.word("cost");
                page.wordNumber(port.cost);
                page.word("split");
                page.word(splitWord(port.split));
                if (port.chain.hasPassword) {
                    page.word("password");
                    page.word("");
                    page.addSecret(port.chain.password);
                }
                if (port.passive) {
                    page.word("passive");
                }
            }
            page.endLine();
            first = false;
        }
    }

    private void beginPortLine(String command, Router router, Port port) {
        page.word(command);
        page.word(router.name);
        page.word(port.link.name);
    }

    private void writeKeys(Router router, Port port) {
        Chain chain = port.chain;
        for (int k = 0; k < chain.total; k++) {
            beginPortLine("key", router, port);
            page.wordNumber(chain.numbers[k]);
            page.word(chain.sizes[k] == Chain.MD5_SIZE ? "md5" : "sha");
            page.word("");
            page.addSecret(chain.secrets[k]);
            page.wordNumber(chain.froms[k]);
            page.wordNumber(chain.tos[k]);
            page.endLine();
        }
    }

    private void writeStatics(Router router) {
        for (int i = 0; i < router.statics.total; i++) {
            Route own = router.statics.rows[i];
            page.word("static");
            page.word(router.name);
            page.word("");
            page.addPrefix(own.prefix);
            page.wordNumber(own.metric);
            page.word("tag");
            page.wordNumber(own.tag);
            page.endLine();
        }
    }

    private void writeFilters(Router router, int side) {
        PrefixList filters = router.filters[side];
        for (int i = 0; i < filters.total; i++) {
            page.word("filter");
            page.word(router.name);
            page.word(sideWord(side));
            page.word("");
            page.addPrefix(filters.prefixes[i]);
            page.word(filters.permits[i] ? "permit" : "deny");
            page.endLine();
        }
    }

    private void writePolicies(Router router, String command, int[][] policies, int total) {
        for (int i = 0; i < total; i++) {
            int[] policy = policies[i];
            Link link = linkAt(policy[Router.LINK]);
            page.word(command);
            page.word(router.name);
            page.word(sideWord(policy[Router.SIDE]));
            page.word(link == null ? "*" : link.name);
            page.word(lists[policy[Router.LIST]].name);
            if (policy[Router.MORE] > 0) {
                page.wordNumber(policy[Router.MORE]);
            }
            page.endLine();
        }
    }

    private void writeExtras(Router router, Port port) {
        for (int i = 0; i < port.summaryTotal; i++) {
            beginPortLine("summary", router, port);
            page.word("");
            page.addPrefix(port.summaries[i]);
            page.endLine();
        }
        for (int i = 0; i < port.neighborTotal; i++) {
            beginPortLine("neighbor", router, port);
            page.word("");
            page.addAddress(port.neighbors[i]);
            page.endLine();
        }
        if (port.defaultMetric > 0) {
            beginPortLine("default", router, port);
            page.wordNumber(port.defaultMetric);
            if (port.defaultOnly) {
                page.word("only");
            }
            page.endLine();
        }
    }

    private void writeShare(Router router, int kind) {
        int metric = router.shareMetrics[kind];
        int tag = router.shareTags[kind];
        if (metric == OWN && tag == NONE) {
            return;
        }
        page.word("redistribute");
        page.word(router.name);
        page.word(kind == CONNECTED ? "connected" : "static");
        if (metric == OWN) {
            page.word("own");
        } else if (metric == OFF) {
            page.word("off");
        } else {
            page.wordNumber(metric);
        }
        if (tag != NONE) {
            page.word("tag");
            page.wordNumber(tag);
        }
        page.endLine();
    }

    /** A row of bytes that grows at its end. */
    private static final class Bytes {
        byte[] data;
        int length;

        Bytes(int room) {
            data = new byte[room < 16 ? 16 : room];
            length = 0;
        }

        void clear() {
            length = 0;
        }

        int at(int i) {
            return i < 0 || i >= length ? NONE : data[i] & 255;
        }

        void setAt(int i, int value) {
            if (i >= 0 && i < length) {
                data[i] = (byte) value;
            }
        }

        /** The number in so many bytes (at most 8) from a place on. */
        long numberAt(int from, int size) {
            long value = 0;
            for (int i = from; i < from + size; i++) {
                value = value << 8 | (i >= 0 && i < length ? data[i] & 255 : 0);
            }
            return value;
        }

        boolean zerosAt(int from, int to) {
            for (int i = from; i < to; i++) {
                if (at(i) != 0) {
                    return false;
                }
            }
            return true;
        }

        void add(int value) {
            if (length >= data.length) {
                byte[] wider = new byte[data.length * 2];
                for (int i = 0; i < data.length; i++) {
                    wider[i] = data[i];
                }
                data = wider;
            }
            data[length] = (byte) value;
            length++;
        }

        void addNumber(long value, int size) {
            for (int shift = size * 8 - 8; shift >= 0; shift -= 8) {
                add((int) (value >>> shift));
            }
        }

        void addZeros(int n) {
            for (int i = 0; i < n; i++) {
                add(0);
            }
        }

        void addPart(Bytes other, int from, int to) {
            int size = to - from;
            if (from < 0 || size <= 0 || to > other.length) {
                return;
            }
            if (length + size > data.length) {
                byte[] wider = new byte[Math.max(data.length * 2, length + size)];
                System.arraycopy(data, 0, wider, 0, length);
                data = wider;
            }
            System.arraycopy(other.data, from, data, length, size);
            length += size;
        }

        /** A word, and a blank ahead of it unless it is the first of its line. */
        void word(String word) {
            if (length > 0 && data[length - 1] != '\n') {
                add(' ');
            }
            addText(word);
        }

        void wordNumber(int value) {
            word("");
            addDecimal(value);
        }

        void endLine() {
            add('\n');
        }

        void addText(String some) {
            for (int i = 0; i < some.length(); i++) {
                add(some.charAt(i));
            }
        }

        void addDecimal(int value) {
            int unit = 1;
            for (int i = 0; i < 9 && value / unit >= 10; i++) {
                unit *= 10;
            }
            for (int i = 0; i < 10 && unit > 0; i++) {
                add('0' + value / unit % 10);
                unit /= 10;
            }
        }

        /** The bytes of a secret: none of them is 0, so the first 0 ends it. */
        void addSecret(byte[] secret) {
            for (int i = 0; i < secret.length && secret[i] != 0; i++) {
                add(secret[i]);
            }
        }

        void addPrefix(Prefix prefix) {
            addAddress(prefix);
            add('/');
            addDecimal(prefix.length);
        }

        void addAddress(Prefix address) {
            if (address.family == 6) {
                addSix(address);
                return;
            }
            for (int shift = 56; shift >= 32; shift -= 8) {
                addDecimal((int) (address.high >>> shift & 255));
                if (shift > 32) {
                    add('.');
                }
            }
        }

        private void addSix(Prefix address) {
            int gap = 8;
            int gapSize = 1;
            for (int i = 0; i < 8; i++) {
                int size = 0;
                while (i + size < 8 && address.part(i + size) == 0) {
                    size++;
                }
                if (size > gapSize) {
                    gap = i;
                    gapSize = size;
                }
            }
            for (int i = 0; i < 8; i++) {
                if (i == gap) {
                    addText("::");
                } else if (i < gap || i >= gap + gapSize) {
                    if (i > 0 && i != gap + gapSize) {
                        add(':');
                    }
                    addHex(address.part(i));
                }
            }
        }

        private void addHex(int value) {
            int shift = 12;
            while (shift > 0 && value >> shift == 0) {
                shift -= 4;
            }
            for (; shift >= 0; shift -= 4) {
                int digit = value >> shift & 15;
                add(digit < 10 ? '0' + digit : 'a' + digit - 10);
            }
        }
    }

    /**
     * A prefix, or an address and the length of its network. The bits stand from the highest of
     * high on, in both families, so that one comparison serves both.
     */
    private static final class Prefix {
        // Added to two numbers, it lets them be compared without sign.
        private static final long SIGN = 0x8000000000000000L;

        int family = 4;
        long high = 0;
        long low = 0;
        int length = 0;

        Prefix() {
        }

        static int bitsOf(int family) {
            return family == 4 ? 32 : 128;
        }

        static long maskHigh(int length) {
            if (length <= 0) {
                return 0;
            }
            return length >= 64 ? -1L : -1L << 64 - length;
        }

        static long maskLow(int length) {
            if (length <= 64) {
                return 0;
            }
            return length >= 128 ? -1L : -1L << 128 - length;
        }

        void copy(Prefix other) {
            family = other.family;
            high = other.high;
            low = other.low;
            length = other.length;
        }

        void setZero(int newFamily, int newLength) {
            family = newFamily;
            high = 0;
            low = 0;
            length = newLength;
        }

        boolean isZero() {
            return high == 0 && low == 0;
        }

        int part(int i) {
            return (int) ((i < 4 ? high : low) >>> 48 - 16 * (i & 3)) & 0xffff;
        }

        /** Whether the first bits of another one are its own; bits behind its length don't matter. */
        boolean covers(Prefix other) {
            if (family != other.family || length > other.length) {
                return false;
            }
            long differHigh = high ^ other.high;
            long differLow = low ^ other.low;
            if (length <= 64) {
                return length <= 0 || differHigh >>> 64 - length == 0;
            }
            return differHigh == 0 && differLow >>> 128 - length == 0;
        }

        boolean sameAddress(Prefix other) {
            return family == other.family && high == other.high && low == other.low;
        }

        boolean sameNetwork(Prefix other) {
            return length == other.length && covers(other);
        }

        /** Below 0 when it stands ahead of another prefix, 0 when it is the same. */
        int order(Prefix other) {
            if (family != other.family) {
                return family - other.family;
            }
            if (high != other.high) {
                return high + SIGN < other.high + SIGN ? -1 : 1;
            }
            if (low != other.low) {
                return low + SIGN < other.low + SIGN ? -1 : 1;
            }
            return length - other.length;
        }

        void dropBitsBehind() {
            high &= maskHigh(length);
            low &= maskLow(length);
        }

        boolean hasBitsBehind() {
            return (high & ~maskHigh(length)) != 0 || (low & ~maskLow(length)) != 0;
        }

        /** Becomes the address in the 4 or 16 bytes from a place on. */
        void takeBytes(Bytes bytes, int from, int newFamily) {
            family = newFamily;
            length = bitsOf(newFamily);
            if (newFamily == 4) {
                high = bytes.numberAt(from, 4) << 32;
                low = 0;
            } else {
                high = bytes.numberAt(from, 8);
                low = bytes.numberAt(from + 8, 8);
            }
        }

        /** Whether no router takes a route of this prefix from another. */
        boolean isForbidden() {
            if (family == 4) {
                return length >= 8 && high >>> 56 == 127 || length >= 3 && high >>> 61 == 7;
            }
            return length >= 10 && high >>> 54 == 0xfe80 >> 6 || length >= 8 && high >>> 56 == 255;
        }

        /** Takes a length behind an address; false when it is none of its family. */
        boolean parseLength(Bytes text, int from, int to) {
            int bits = plainNumber(text, from, to);
            if (bits < 0 || bits > bitsOf(family)) {
                return false;
            }
            length = bits;
            return true;
        }

        boolean parseAddress(Bytes text, int from, int to) {
            for (int i = from; i < to; i++) {
                if (text.at(i) == ':') {
                    return parseSix(text, from, to);
                }
            }
            return parseFour(text, from, to);
        }

        private boolean parseFour(Bytes text, int from, int to) {
            long value = 0;
            int at = from;
            for (int i = 0; i < 4; i++) {
                int stop = at;
                while (stop < to && text.at(stop) != '.') {
                    stop++;
                }
                int number = plainNumber(text, at, stop);
                if (number < 0 || number > 255 || i < 3 && stop == to || i == 3 && stop < to) {
                    return false;
                }
                value = value << 8 | number;
                at = stop + 1;
            }
            setZero(4, 32);
            high = value << 32;
            return true;
        }

        /** A number of one to three digits without 0s ahead, or NONE. */
        private static int plainNumber(Bytes text, int from, int to) {
            int size = to - from;
            if (size < 1 || size > 3 || size > 1 && text.at(from) == '0') {
                return NONE;
            }
            int value = 0;
            for (int i = from; i < to; i++) {
                int digit = text.at(i) - '0';
                if (digit < 0 || digit > 9) {
                    return NONE;
                }
                value = value * 10 + digit;
            }
            return value;
        }

        private boolean parseSix(Bytes text, int from, int to) {
            int at = from;
            int total = 0;
            int gap = NONE;
            setZero(6, 128);
            if (text.at(at) == ':' && at + 1 < to && text.at(at + 1) == ':') {
                gap = 0;
                at += 2;
            }
            for (int n = 0; n < 9 && at < to; n++) {
                int stop = at;
                while (stop < to && text.at(stop) != ':') {
                    stop++;
                }
                int value = hexNumber(text, at, stop);
                if (value < 0 || total == 8) {
                    return false;
                }
                high = high << 16 | low >>> 48;
                low = low << 16 | value;
                total++;
                at = stop + 1;
                if (stop < to && at == to) {
                    return false;
                }
                if (at < to && text.at(at) == ':') {
                    if (gap != NONE) {
                        return false;
                    }
                    gap = total;
                    at++;
                }
            }
            return gap == NONE ? total == 8 : total < 8 && openGap(total - gap, 8 - total);
        }

        /** Moves all but the last parts up by so many parts, and 0s come between. */
        private boolean openGap(int behind, int size) {
            long lastHigh = high & ~maskHigh(128 - 16 * behind);
            long lastLow = low & ~maskLow(128 - 16 * behind);
            high ^= lastHigh;
            low ^= lastLow;
            for (int i = 0; i < size; i++) {
                high = high << 16 | low >>> 48;
                low <<= 16;
            }
            high |= lastHigh;
            low |= lastLow;
            return true;
        }

        /** A number of one to four hexadecimal digits, or NONE. */
        private static int hexNumber(Bytes text, int from, int to) {
            if (to - from < 1 || to - from > 4) {
                return NONE;
            }
            int value = 0;
            for (int i = from; i < to; i++) {
                int digit = text.at(i);
                if (digit >= '0' && digit <= '9') {
                    digit -= '0';
                } else if (digit >= 'a' && digit <= 'f') {
                    digit -= 'a' - 10;
                } else if (digit >= 'A' && digit <= 'F') {
                    digit -= 'A' - 10;
                } else {
                    return NONE;
                }
                value = value << 4 | digit;
            }
            return value;
        }
    }

    /** Prefixes that permit or deny, in the order told: a list, or the filters of one side. */
    private static final class PrefixList {
        final String name;
        final Prefix[] prefixes;
        final boolean[] permits;
        final int[] least;
        final int[] most;
        int total = 0;

        PrefixList(String name, int room) {
            int size = Math.max(room, 1);
            this.name = name;
            prefixes = new Prefix[size];
            permits = new boolean[size];
            least = new int[size];
            most = new int[size];
        }

        boolean isFull() {
            return total >= prefixes.length;
        }

        /** The lengths are NONE when they were not told. */
        void add(Prefix prefix, boolean permit, int leastLength, int mostLength) {
            if (isFull()) {
                return;
            }
            prefixes[total] = new Prefix();
            prefixes[total].copy(prefix);
            permits[total] = permit;
            least[total] = leastLength;
            most[total] = mostLength;
            total++;
        }

        boolean lets(Prefix prefix, boolean otherwise) {
            for (int i = 0; i < total; i++) {
                Prefix own = prefixes[i];
                int from = least[i] == NONE ? own.length : least[i];
                int to = most[i];
                if (to == NONE) {
                    to = least[i] == NONE ? own.length : 128;
                }
                if (prefix.length >= from && prefix.length <= to && own.covers(prefix)) {
                    return permits[i];
                }
            }
            return otherwise;
        }
    }

    /** A link and what is told of it. */
    private static final class Link {
        final String name;
        final int delay;
        final int jitter;
        final int mtu;
        boolean up = true;
        int sent = 0;
        int toLose = 0;
        final Bytes latest = new Bytes(16);

        Link(String name, int delay, int jitter, int mtu) {
            this.name = name;
            this.delay = Math.max(delay, 1);
            this.jitter = Math.max(jitter, 0);
            this.mtu = mtu;
        }
    }

    /** A datagram that is written, on its way, or just coming. */
    private static final class Datagram {
        final Bytes bytes = new Bytes(DATAGRAM_ROOM);
        final Prefix source = new Prefix();
        final Prefix target = new Prefix();
        boolean toAll = true;
        int family = 4;
        int port = 0;
        int hops = 0;
        Router sender = null;
        Link link = null;
        int due = 0;
        // Where its entries stand, without keys, as the one who hears it now sees it.
        int from = HEAD;
        int until = HEAD;

        Datagram() {
        }

        static int portOf(int family) {
            return family == 4 ? 520 : 521;
        }

        boolean isWellFormed() {
            int entries = (bytes.length - HEAD) / ENTRY;
            int command = bytes.at(0);
            return bytes.length == HEAD + entries * ENTRY && entries >= 1
                    && entries <= (family == 4 ? MOST_CAME_ENTRIES_4 : MOST_ENTRIES)
                    && (command == REQUEST || command == RESPONSE)
                    && bytes.at(1) == (family == 4 ? 2 : 1) && bytes.zerosAt(2, HEAD);
        }

        boolean asksForAll() {
            if (until - from != ENTRY || metricAt(from) != DEAD) {
                return false;
            }
            return family == 4 ? bytes.zerosAt(from, from + 2) : bytes.zerosAt(from, from + 19);
        }

        long metricAt(int at) {
            return family == 4 ? bytes.numberAt(at + 16, 4) : bytes.at(at + 19);
        }

        int tagAt(int at) {
            return (int) bytes.numberAt(family == 4 ? at + 2 : at + 16, 2);
        }

        /** Takes the prefix of an entry; false when it is none. */
        boolean takePrefix(int at, Prefix prefix) {
            if (family == 6) {
                prefix.takeBytes(bytes, at, 6);
                int length = bytes.at(at + 18);
                prefix.length = length;
                return length <= 128 && !prefix.hasBitsBehind();
            }
            prefix.takeBytes(bytes, at + 4, 4);
            int mask = (int) bytes.numberAt(at + 8, 4);
            int length = Integer.bitCount(mask);
            prefix.length = length;
            return bytes.numberAt(at, 2) == 2 && mask == (int) (Prefix.maskHigh(length) >>> 32)
                    && !prefix.hasBitsBehind();
        }

        void addEntry(Prefix prefix, int tag, int metric) {
            if (family == 4) {
                bytes.addNumber(2, 2);
                bytes.addNumber(tag, 2);
                bytes.addNumber(prefix.high >>> 32, 4);
                bytes.addNumber(Prefix.maskHigh(prefix.length) >>> 32, 4);
                bytes.addNumber(metric, 8);
            } else {
                bytes.addNumber(prefix.high, 8);
                bytes.addNumber(prefix.low, 8);
                bytes.addNumber(tag, 2);
                bytes.add(prefix.length);
                bytes.add(metric);
            }
        }
    }

    /** The keys of an interface (none, a password, or a chain), and the sums that they make. */
    private static final class Chain {
        static final int MD5_SIZE = 16;
        static final int SHA_SIZE = 20;
        static final int SECRET_ROOM = 16;
        static final int KEY_MARK = 0xffff;
        private static final int BLOCK = 64;
        // A datagram, a secret of a block, and what fills the last block.
        private static final int WORK_ROOM = DATAGRAM_ROOM + 3 * BLOCK;
        private static final int[] SINES = {
            0xd76aa478, 0xe8c7b756, 0x242070db, 0xc1bdceee, 0xf57c0faf, 0x4787c62a, 0xa8304613, 0xfd469501,
            0x698098d8, 0x8b44f7af, 0xffff5bb1, 0x895cd7be, 0x6b901122, 0xfd987193, 0xa679438e, 0x49b40821,
            0xf61e2562, 0xc040b340, 0x265e5a51, 0xe9b6c7aa, 0xd62f105d, 0x02441453, 0xd8a1e681, 0xe7d3fbc8,
            0x21e1cde6, 0xc33707d6, 0xf4d50d87, 0x455a14ed, 0xa9e3e905, 0xfcefa3f8, 0x676f02d9, 0x8d2a4c8a,
            0xfffa3942, 0x8771f681, 0x6d9d6122, 0xfde5380c, 0xa4beea44, 0x4bdecfa9, 0xf6bb4b60, 0xbebfbc70,
            0x289b7ec6, 0xeaa127fa, 0xd4ef3085, 0x04881d05, 0xd9d4d039, 0xe6db99e5, 0x1fa27cf8, 0xc4ac5665,
            0xf4292244, 0x432aff97, 0xab9423a7, 0xfc93a039, 0x655b59c3, 0x8f0ccc92, 0xffeff47d, 0x85845dd1,
            0x6fa87e4f, 0xfe2ce6e0, 0xa3014314, 0x4e0811a1, 0xf7537e82, 0xbd3af235, 0x2ad7d2bb, 0xeb86d391,
        };
        private static final int[] TURNS = {7, 12, 17, 22, 5, 9, 14, 20, 4, 11, 16, 23, 6, 10, 15, 21};

        boolean hasPassword = false;
        final byte[] password = new byte[SECRET_ROOM];
        int total = 0;
        final int[] numbers = new int[MOST_KEYS];
        final int[] sizes = new int[MOST_KEYS];
        final int[] froms = new int[MOST_KEYS];
        final int[] tos = new int[MOST_KEYS];
        final byte[][] secrets = new byte[MOST_KEYS][SECRET_ROOM];
        private byte[] work = null;
        private int workSize = 0;
        private final int[] state = new int[5];
        private final int[] words = new int[80];

        Chain() {
        }

        String kindWord() {
            if (hasPassword) {
                return "password";
            }
            return total > 0 ? "chain" : "open";
        }

        void clear() {
            hasPassword = false;
            total = 0;
        }

        void copy(Chain other) {
            hasPassword = other.hasPassword;
            System.arraycopy(other.password, 0, password, 0, SECRET_ROOM);
            total = other.total;
            for (int k = 0; k < total; k++) {
                numbers[k] = other.numbers[k];
                sizes[k] = other.sizes[k];
                froms[k] = other.froms[k];
                tos[k] = other.tos[k];
                System.arraycopy(other.secrets[k], 0, secrets[k], 0, SECRET_ROOM);
            }
        }

        void setPassword(byte[] secret) {
            clear();
            hasPassword = true;
            System.arraycopy(secret, 0, password, 0, SECRET_ROOM);
        }

        /** False, changing nothing, when it would be one key too many. */
        boolean setKey(int number, int size, byte[] secret, int from, int to) {
            int k = 0;
            while (k < total && numbers[k] != number) {
                k++;
            }
            if (k >= MOST_KEYS) {
                return false;
            }
            hasPassword = false;
            total = Math.max(total, k + 1);
            numbers[k] = number;
            sizes[k] = size;
            froms[k] = from;
            tos[k] = to;
            System.arraycopy(secret, 0, secrets[k], 0, SECRET_ROOM);
            return true;
        }

        /** The good key that a datagram bears now, or NONE. */
        int bearer(int time) {
            int best = NONE;
            for (int k = 0; k < total; k++) {
                boolean good = froms[k] <= time && time <= tos[k];
                if (good && (best == NONE || froms[k] > froms[best]
                        || froms[k] == froms[best] && numbers[k] > numbers[best])) {
                    best = k;
                }
            }
            return best;
        }

        private int goodKey(int number, int time) {
            for (int k = 0; k < total; k++) {
                if (numbers[k] == number && froms[k] <= time && time <= tos[k]) {
                    return k;
                }
            }
            return NONE;
        }

        int endSize(int key) {
            return sizes[key] == MD5_SIZE ? 20 : 40;
        }

        void addPasswordEntry(Bytes bytes) {
            bytes.addNumber(KEY_MARK, 2);
            bytes.addNumber(2, 2);
            for (int i = 0; i < SECRET_ROOM; i++) {
                bytes.add(password[i]);
            }
        }

        boolean isPasswordEntry(Bytes bytes) {
            for (int i = 0; i < SECRET_ROOM; i++) {
                if (bytes.at(HEAD + 4 + i) != password[i]) {
                    return false;
                }
            }
            return bytes.numberAt(HEAD, 4) == 0xffff0002L;
        }

        void addKeyEntry(Bytes bytes, int key, int number) {
            bytes.addNumber(KEY_MARK, 2);
            bytes.addNumber(3, 2);
            bytes.addNumber(0, 2);
            bytes.add(numbers[key]);
            bytes.add(sizes[key]);
            bytes.addNumber(number, 4);
            bytes.addZeros(8);
        }

        /** Tells the size, which is known only now, and puts the end behind the entries. */
        void seal(Bytes bytes, int key) {
            bytes.setAt(HEAD + 4, bytes.length >> 8);
            bytes.setAt(HEAD + 5, bytes.length);
            bytes.addNumber(0xffff0001L, 4);
            sum(bytes, bytes.length, key);
            for (int i = 0; i < sizes[key]; i++) {
                bytes.add(sumByte(i, key));
            }
            if (sizes[key] == SHA_SIZE) {
                bytes.addZeros(16);
            }
        }

        /** The good key whose entry and end are all right, or NONE. */
        int keyOf(Bytes bytes, int time) {
            int key = goodKey(bytes.at(HEAD + 6), time);
            if (key == NONE || bytes.numberAt(HEAD, 4) != 0xffff0003L || bytes.at(HEAD + 7) != sizes[key]) {
                return NONE;
            }
            int size = bytes.length - endSize(key);
            if (size < HEAD + ENTRY || bytes.numberAt(HEAD + 4, 2) != size
                    || !bytes.zerosAt(HEAD + 12, HEAD + ENTRY) || bytes.numberAt(size, 4) != 0xffff0001L
                    || !bytes.zerosAt(size + 4 + sizes[key], bytes.length)) {
                return NONE;
            }
            sum(bytes, size + 4, key);
            for (int i = 0; i < sizes[key]; i++) {
                if (bytes.at(size + 4 + i) != sumByte(i, key)) {
                    return NONE;
                }
            }
            return key;
        }

        private int sumByte(int i, int key) {
            int shift = sizes[key] == MD5_SIZE ? 8 * (i & 3) : 24 - 8 * (i & 3);
            return state[i >> 2] >>> shift & 255;
        }

        /** Leaves in state the sum of the first bytes, with a key. */
        private void sum(Bytes bytes, int size, int key) {
            if (work == null) {
                work = new byte[WORK_ROOM];
            }
            workSize = 0;
            if (sizes[key] == MD5_SIZE) {
                addWork(bytes.data, Math.min(size, bytes.length));
                addSecret(key, 0, SECRET_ROOM);
                fillBlock(false);
                md5();
                return;
            }
            addSecret(key, 54, BLOCK);
            addWork(bytes.data, Math.min(size, bytes.length));
            fillBlock(true);
            sha();
            workSize = 0;
            addSecret(key, 92, BLOCK);
            for (int i = 0; i < SHA_SIZE; i++) {
                work[workSize] = (byte) sumByte(i, key);
                workSize++;
            }
            fillBlock(true);
            sha();
        }

        private void addWork(byte[] some, int size) {
            if (size <= some.length && workSize + size <= work.length) {
                System.arraycopy(some, 0, work, workSize, size);
                workSize += size;
            }
        }

        private void addSecret(int key, int change, int size) {
            for (int i = 0; i < size && workSize < work.length; i++) {
                work[workSize] = (byte) ((i < SECRET_ROOM ? secrets[key][i] : 0) ^ change);
                workSize++;
            }
        }

        /** Puts byte 128, 0s and the number of bits behind the work, up to a full block. */
        private void fillBlock(boolean highestFirst) {
            int bits = workSize * 8;
            int full = (workSize + 8) / BLOCK * BLOCK + BLOCK;
            if (full > work.length) {
                return;
            }
            work[workSize] = (byte) 128;
            for (int i = workSize + 1; i < full; i++) {
                work[i] = 0;
            }
            for (int i = 0; i < 4; i++) {
                work[highestFirst ? full - 1 - i : full - 8 + i] = (byte) (bits >>> 8 * i);
            }
            workSize = full;
        }

        private void begin() {
            state[0] = 0x67452301;
            state[1] = 0xefcdab89;
            state[2] = 0x98badcfe;
            state[3] = 0x10325476;
            state[4] = 0xc3d2e1f0;
        }

        private void md5() {
            begin();
            for (int from = 0; from + BLOCK <= workSize; from += BLOCK) {
                for (int i = 0; i < 16; i++) {
                    int at = from + 4 * i;
                    words[i] = work[at] & 255 | (work[at + 1] & 255) << 8
                            | (work[at + 2] & 255) << 16 | (work[at + 3] & 255) << 24;
                }
                md5Block();
            }
        }

        private void md5Block() {
            int a = state[0];
            int b = state[1];
            int c = state[2];
            int d = state[3];
            for (int i = 0; i < 64; i++) {
                int f;
                int g;
                if (i < 16) {
                    f = b & c | ~b & d;
                    g = i;
                } else if (i < 32) {
                    f = d & b | ~d & c;
                    g = 5 * i + 1;
                } else if (i < 48) {
                    f = b ^ c ^ d;
                    g = 3 * i + 5;
                } else {
                    f = c ^ (b | ~d);
                    g = 7 * i;
                }
                int sum = a + f + SINES[i] + words[g & 15];
                int turn = TURNS[i >> 4 << 2 | i & 3];
                a = d;
                d = c;
                c = b;
                b += sum << turn | sum >>> 32 - turn;
            }
            state[0] += a;
            state[1] += b;
            state[2] += c;
            state[3] += d;
        }

        private void sha() {
            begin();
            for (int from = 0; from + BLOCK <= workSize; from += BLOCK) {
                for (int i = 0; i < 16; i++) {
                    int at = from + 4 * i;
                    words[i] = (work[at] & 255) << 24 | (work[at + 1] & 255) << 16
                            | (work[at + 2] & 255) << 8 | work[at + 3] & 255;
                }
                for (int i = 16; i < 80; i++) {
                    int word = words[i - 3] ^ words[i - 8] ^ words[i - 14] ^ words[i - 16];
                    words[i] = word << 1 | word >>> 31;
                }
                shaBlock();
            }
        }

        private void shaBlock() {
            int a = state[0];
            int b = state[1];
            int c = state[2];
            int d = state[3];
            int e = state[4];
            for (int i = 0; i < 80; i++) {
                int mix;
                if (i < 20) {
                    mix = (b & c | ~b & d) + 0x5a827999;
                } else if (i < 40) {
                    mix = (b ^ c ^ d) + 0x6ed9eba1;
                } else if (i < 60) {
                    mix = (b & c | b & d | c & d) + 0x8f1bbcdc;
                } else {
                    mix = (b ^ c ^ d) + 0xca62c1d6;
                }
                int next = (a << 5 | a >>> 27) + mix + e + words[i];
                e = d;
                d = c;
                c = b << 30 | b >>> 2;
                b = a;
                a = next;
            }
            state[0] += a;
            state[1] += b;
            state[2] += c;
            state[3] += d;
            state[4] += e;
        }
    }

    /** An interface of a router to a link. */
    private static final class Port {
        final Link link;
        Prefix address4 = null;
        Prefix address6 = null;
        int cost = 1;
        int split = SPLIT_POISON;
        boolean passive = false;
        final Chain chain = new Chain();
        final Prefix[] summaries = new Prefix[MOST_OF_PORT];
        int summaryTotal = 0;
        final int[] summaryLeast = new int[MOST_OF_PORT];
        final boolean[] summaryTold = new boolean[MOST_OF_PORT];
        final Prefix[] neighbors = new Prefix[MOST_OF_PORT];
        int neighborTotal = 0;
        int defaultMetric = 0;
        boolean defaultOnly = false;
        int nextNumber = 0;
        // The sources whose keys were all right, and the greatest number of each.
        private int[] sources = new int[4];
        private int[] greatest = new int[4];
        private int sourceTotal = 0;

        Port(Link link) {
            this.link = link;
        }

        Prefix addressOf(int family) {
            return family == 4 ? address4 : address6;
        }

        void setAddress(Prefix address) {
            Prefix own = new Prefix();
            own.copy(address);
            if (own.family == 4) {
                address4 = own;
            } else {
                address6 = own;
            }
        }

        void addSummary(Prefix prefix) {
            if (summaryTotal < summaries.length) {
                summaries[summaryTotal] = new Prefix();
                summaries[summaryTotal].copy(prefix);
                summaryTotal++;
            }
        }

        void addNeighbor(Prefix address) {
            if (neighborTotal < neighbors.length) {
                neighbors[neighborTotal] = new Prefix();
                neighbors[neighborTotal].copy(address);
                neighborTotal++;
            }
        }

        /** The first summary that covers a prefix, or NONE. */
        int summaryOf(Prefix prefix) {
            for (int i = 0; i < summaryTotal; i++) {
                if (summaries[i].covers(prefix)) {
                    return i;
                }
            }
            return NONE;
        }

        void forgetSummaries() {
            for (int i = 0; i < summaryTotal; i++) {
                summaryLeast[i] = DEAD;
                summaryTold[i] = false;
            }
        }

        /** How many entries a datagram has room for beside its keys. */
        int entryRoom(int family, int key) {
            int most = MOST_ENTRIES;
            int size = link.mtu - HEAD;
            if (family == 4 && chain.hasPassword) {
                most -= 1;
                size -= ENTRY;
            } else if (family == 4 && key >= 0) {
                most -= chain.endSize(key) / ENTRY;
                size -= ENTRY + chain.endSize(key);
            }
            return Math.max(1, Math.min(most, size / ENTRY));
        }

        /** Whether the keys of a datagram of family 4 are right; it knows its entries then. */
        boolean opens(Datagram datagram, int time) {
            Bytes bytes = datagram.bytes;
            if (chain.total > 0) {
                int key = chain.keyOf(bytes, time);
                if (key == NONE || !isFresh(datagram.source, (int) bytes.numberAt(HEAD + 8, 4))) {
                    return false;
                }
                datagram.from = HEAD + ENTRY;
                datagram.until = bytes.length - chain.endSize(key);
                return true;
            }
            if (chain.hasPassword) {
                datagram.from = HEAD + ENTRY;
                return chain.isPasswordEntry(bytes);
            }
            return bytes.numberAt(HEAD, 2) != Chain.KEY_MARK;
        }

        private boolean isFresh(Prefix source, int number) {
            int address = (int) (source.high >>> 32);
            int i = 0;
            while (i < sourceTotal && sources[i] != address) {
                i++;
            }
            if (i < sourceTotal && (number & 0xffffffffL) < (greatest[i] & 0xffffffffL)) {
                return false;
            }
            if (i >= sources.length) {
                sources = widened(sources);
                greatest = widened(greatest);
            }
            sources[i] = address;
            greatest[i] = number;
            sourceTotal = Math.max(sourceTotal, i + 1);
            return true;
        }

        private static int[] widened(int[] row) {
            int[] wider = new int[row.length * 2];
            System.arraycopy(row, 0, wider, 0, row.length);
            return wider;
        }
    }

    /** A route; also a static one as told, and an entry that is to be told. */
    private static final class Route {
        final Prefix prefix = new Prefix();
        final Prefix gateway = new Prefix();
        final Prefix source = new Prefix();
        int kind = LEARNED;
        int metric = DEAD;
        int tag = 0;
        Port port = null;
        boolean changed = false;
        int since = 0;
        int timeout = 0;
        int deadline = 0;

        Route() {
        }

        void begin(Prefix ofPrefix, int newTag, int newMetric) {
            int bits = Prefix.bitsOf(ofPrefix.family);
            prefix.copy(ofPrefix);
            gateway.setZero(ofPrefix.family, bits);
            source.setZero(ofPrefix.family, bits);
            kind = LEARNED;
            port = null;
            tag = newTag;
            metric = newMetric;
            changed = false;
        }

        /** Becomes one of the router's own; whether it is a change. */
        boolean becomeOwn(int newKind, int newMetric, int newTag, Port newPort) {
            boolean differs = metric != newMetric || port != newPort || !gateway.isZero()
                    || newKind == STATIC && tag != newTag;
            kind = newKind;
            metric = newMetric;
            tag = newTag;
            port = newPort;
            gateway.setZero(prefix.family, Prefix.bitsOf(prefix.family));
            return differs;
        }
    }

    /** Routes in the order of their prefixes. Rows behind the last are kept to be used again. */
    private static final class Table {
        Route[] rows = new Route[16];
        int total = 0;

        Table() {
        }

        void clear() {
            total = 0;
        }

        /** Where the first row stands that is not ahead of a prefix. */
        private int placeOf(Prefix prefix) {
            int from = 0;
            int to = total;
            for (int step = 0; step < 32 && from < to; step++) {
                int middle = from + (to - from) / 2;
                if (rows[middle].prefix.order(prefix) < 0) {
                    from = middle + 1;
                } else {
                    to = middle;
                }
            }
            return from;
        }

        Route find(Prefix prefix) {
            int at = placeOf(prefix);
            return at < total && rows[at].prefix.order(prefix) == 0 ? rows[at] : null;
        }

        /** A new row of a prefix that has none. */
        Route add(Prefix prefix, int tag, int metric) {
            int at = placeOf(prefix);
            if (total >= rows.length) {
                Route[] wider = new Route[rows.length * 2];
                for (int i = 0; i < total; i++) {
                    wider[i] = rows[i];
                }
                rows = wider;
            }
            Route row = rows[total];
            if (row == null) {
                row = new Route();
            }
            for (int i = total; i > at; i--) {
                rows[i] = rows[i - 1];
            }
            rows[at] = row;
            total++;
            row.begin(prefix, tag, metric);
            return row;
        }

        void remove(int at) {
            if (at < 0 || at >= total) {
                return;
            }
            Route row = rows[at];
            total--;
            for (int i = at; i < total; i++) {
                rows[i] = rows[i + 1];
            }
            rows[total] = row;
        }

        void removeOf(Prefix prefix) {
            remove(placeOf(prefix));
        }

        int totalOf(int family) {
            int n = 0;
            for (int i = 0; i < total; i++) {
                if (rows[i].prefix.family == family) {
                    n++;
                }
            }
            return n;
        }
    }

    /** A router: what it was told, its routes, and what it says and hears. */
    private static final class Router {
        // The columns of a distribute or an offset.
        static final int SIDE = 0;
        static final int LINK = 1;
        static final int LIST = 2;
        static final int MORE = 3;
        // No datagram can go; NONE stands for one that bears no key.
        private static final int CLOSED = -2;

        final RoutingField field;
        final String name;
        final int number;
        boolean running = true;
        final Port[] ports = new Port[MOST_PORTS];
        int portTotal = 0;
        final Table table = new Table();
        final Table statics = new Table();
        final PrefixList[] filters = new PrefixList[2];
        final int[][] distributes = new int[MOST_POLICIES][4];
        int distributeTotal = 0;
        final int[][] offsets = new int[MOST_POLICIES][4];
        int offsetTotal = 0;
        final int[] shareMetrics = {OWN, OWN};
        final int[] shareTags = {NONE, NONE};
        final int[] timers = {30, 180, 120};
        final int[] counts = new int[COUNTS];
        private int updateAt;
        private int triggerAt = NONE;
        // No route's time is over before this one: most ticks need not look at them.
        private int nextDeadline = 0;

        Router(RoutingField field, String name, int number) {
            this.field = field;
            this.name = name;
            this.number = number;
            filters[IN] = new PrefixList("", MOST_FILTERS);
            filters[OUT] = new PrefixList("", MOST_FILTERS);
            updateAt = field.time + timers[UPDATE];
        }

        Port portOn(Link link) {
            for (int p = 0; p < portTotal; p++) {
                if (ports[p].link == link) {
                    return ports[p];
                }
            }
            return null;
        }

        Port addPort(Link link) {
            Port port = new Port(link);
            if (portTotal < ports.length) {
                ports[portTotal] = port;
                portTotal++;
            }
            return port;
        }

        // ---- its routes

        private void markChanged(Route route) {
            route.changed = true;
            counts[CHANGES]++;
            if (triggerAt == NONE) {
                triggerAt = field.time + 1 + (number + counts[TRIGGERS]) % 5;
            }
        }

        private void startTimeout(Route route) {
            route.since = field.time;
            route.timeout = timers[TIMEOUT];
            startDeadline(route, timers[TIMEOUT]);
        }

        private void startDeadline(Route route, int ticks) {
            route.deadline = field.time + ticks;
            if (route.deadline < nextDeadline) {
                nextDeadline = route.deadline;
            }
        }

        private void die(Route route) {
            if (route.metric < DEAD) {
                route.metric = DEAD;
                startDeadline(route, timers[GARBAGE]);
                markChanged(route);
            }
        }

        /** The first interface whose network a prefix is and whose link is up. */
        private Port portOf(Prefix prefix) {
            for (int p = 0; p < portTotal; p++) {
                Prefix address = ports[p].addressOf(prefix.family);
                if (address != null && ports[p].link.up && address.sameNetwork(prefix)) {
                    return ports[p];
                }
            }
            return null;
        }

        /** Puts what is due for a prefix, connected or static, in its place. */
        void settle(Prefix prefix) {
            if (!running) {
                return;
            }
            Port port = portOf(prefix);
            Route own = port == null ? statics.find(prefix) : null;
            Route route = table.find(prefix);
            if (port == null && own == null) {
                lapse(route);
                return;
            }
            if (route == null) {
                route = table.add(prefix, 0, DEAD);
            }
            boolean differs = false;
            if (port != null) {
                differs = route.becomeOwn(CONNECTED, port.cost, 0, port);
            } else if (own != null) {
                differs = route.becomeOwn(STATIC, own.metric, own.tag, null);
            }
            if (differs) {
                markChanged(route);
            }
        }

        /** A route for which nothing of its own is due any more dies, if it was that. */
        private void lapse(Route route) {
            if (route != null && route.kind != LEARNED) {
                route.kind = LEARNED;
                route.tag = 0;
                route.port = null;
                die(route);
            }
        }

        void settlePort(Port port) {
            for (int family = 4; family <= 6; family += 2) {
                Prefix address = port.addressOf(family);
                if (address != null) {
                    field.entry.copy(address);
                    field.entry.dropBitsBehind();
                    settle(field.entry);
                }
            }
        }

        void loseLearned(Port port) {
            for (int i = 0; i < table.total; i++) {
                Route route = table.rows[i];
                if (route.kind == LEARNED && route.port == port) {
                    die(route);
                }
            }
        }

        void start() {
            running = true;
            updateAt = field.time + timers[UPDATE];
            for (int p = 0; p < portTotal; p++) {
                settlePort(ports[p]);
            }
            for (int i = 0; i < statics.total; i++) {
                settle(statics.rows[i].prefix);
            }
            for (int p = 0; p < portTotal; p++) {
                ask(ports[p], 4);
                ask(ports[p], 6);
            }
        }

        void stop() {
            tell(TELL_END);
            table.clear();
            triggerAt = NONE;
            running = false;
        }

        /** What it does in a tick, behind the coming of datagrams. */
        void takeTurn() {
            age();
            if (field.time >= updateAt) {
                tell(TELL_ALL);
                updateAt = field.time + timers[UPDATE];
                forgetChanges();
            } else if (triggerAt != NONE && field.time >= triggerAt) {
                tell(TELL_CHANGED);
                counts[TRIGGERS]++;
                forgetChanges();
            }
        }

        private void age() {
            if (field.time < nextDeadline) {
                return;
            }
            nextDeadline = LAST_TIME + 1;
            int all = table.total;
            int at = 0;
            for (int n = 0; n < all; n++) {
                Route route = table.rows[at];
                boolean over = route.kind == LEARNED && field.time >= route.deadline;
                if (over && route.metric == DEAD) {
                    table.remove(at);
                    continue;
                }
                if (over) {
                    die(route);
                }
                if (route.kind == LEARNED) {
                    nextDeadline = Math.min(nextDeadline, route.deadline);
                }
                at++;
            }
        }

        private void forgetChanges() {
            for (int i = 0; i < table.total; i++) {
                table.rows[i].changed = false;
            }
            triggerAt = NONE;
        }

        // ---- its lists

        private boolean concerns(int[] policy, int side, Link link) {
            return policy[SIDE] == side
                    && (policy[LINK] == NONE || field.linkAt(policy[LINK]) == link);
        }

        private boolean refuses(int side, Link link, Prefix prefix) {
            if (!filters[side].lets(prefix, true)) {
                return true;
            }
            for (int i = 0; i < distributeTotal; i++) {
                int[] policy = distributes[i];
                if (concerns(policy, side, link) && !field.lists[policy[LIST]].lets(prefix, false)) {
                    return true;
                }
            }
            return false;
        }

        /** A metric with what the first offset that lets the prefix puts on it. */
        private int raised(int metric, int side, Link link, Prefix prefix) {
            for (int i = 0; i < offsetTotal; i++) {
                int[] policy = offsets[i];
                if (concerns(policy, side, link) && field.lists[policy[LIST]].lets(prefix, false)) {
                    return Math.min(DEAD, metric + policy[MORE]);
                }
            }
            return Math.min(DEAD, metric);
        }

        // ---- what it says

        private void tell(int what) {
            for (int p = 0; p < portTotal; p++) {
                Port port = ports[p];
                for (int family = 4; family <= 6; family += 2) {
                    if (port.addressOf(family) == null || !port.link.up) {
                        continue;
                    }
                    gather(port, family, what);
                    if (!port.passive) {
                        sendTold(port, family, null);
                    }
                    for (int i = 0; i < port.neighborTotal; i++) {
                        if (port.neighbors[i].family == family) {
                            sendTold(port, family, port.neighbors[i]);
                        }
                    }
                }
            }
        }

        /** Leaves in the field's told the entries that are to be told on an interface. */
        private void gather(Port port, int family, int what) {
            Table told = field.told;
            boolean ending = what == TELL_END;
            boolean withDefault = !ending && port.defaultMetric > 0;
            boolean none = withDefault && port.defaultOnly;
            told.clear();
            port.forgetSummaries();
            for (int i = 0; i < table.total && !none; i++) {
                Route route = table.rows[i];
                if (route.prefix.family != family) {
                    continue;
                }
                int metric = ending ? DEAD : toldMetric(route, port);
                int tag = ending ? route.tag : toldTag(route);
                int summary = ending ? NONE : port.summaryOf(route.prefix);
                boolean due = what != TELL_CHANGED || route.changed;
                if (metric == NONE) {
                    continue;
                }
                if (summary != NONE) {
                    port.summaryLeast[summary] = Math.min(port.summaryLeast[summary], metric);
                    port.summaryTold[summary] |= due;
                } else if (due && !(withDefault && route.prefix.length == 0)) {
                    told.add(route.prefix, tag, metric);
                }
            }
            gatherSummaries(port);
            if (withDefault && what == TELL_ALL) {
                field.entry.setZero(family, 0);
                told.add(field.entry, 0, port.defaultMetric);
            }
        }

        private void gatherSummaries(Port port) {
            for (int i = 0; i < port.summaryTotal; i++) {
                Prefix prefix = port.summaries[i];
                if (port.summaryTold[i] && !(port.defaultMetric > 0 && prefix.length == 0)) {
                    field.told.add(prefix, 0, port.summaryLeast[i]);
                }
            }
        }

        private int toldTag(Route route) {
            if (route.kind == LEARNED || shareMetrics[route.kind] == OWN) {
                return route.tag;
            }
            return Math.max(0, shareTags[route.kind]);
        }

        /** The metric with which a route is told on an interface; NONE when it is not. */
        private int toldMetric(Route route, Port port) {
            int metric = route.metric;
            if (route.kind != LEARNED && shareMetrics[route.kind] != OWN) {
                metric = shareMetrics[route.kind];
            }
            if (metric == OFF || refuses(OUT, port.link, route.prefix)) {
                return NONE;
            }
            if (route.port == port) {
                if (route.kind != LEARNED || port.split == SPLIT_SIMPLE) {
                    return NONE;
                }
                if (port.split == SPLIT_POISON) {
                    metric = DEAD;
                }
            }
            return raised(metric, OUT, port.link, route.prefix);
        }

        /** Begins the draft: the key that it bears, NONE for no key of a chain, CLOSED if it can't go. */
        private int openDraft(Port port, int family, int command) {
            int key = NONE;
            if (!port.link.up || port.addressOf(family) == null) {
                return CLOSED;
            }
            if (family == 4 && port.chain.total > 0) {
                key = port.chain.bearer(field.time);
                if (key == NONE) {
                    return CLOSED;
                }
            }
            Bytes bytes = field.draft.bytes;
            field.draft.family = family;
            bytes.clear();
            bytes.add(command);
            bytes.add(family == 4 ? 2 : 1);
            bytes.addZeros(2);
            if (family == 4 && port.chain.hasPassword) {
                port.chain.addPasswordEntry(bytes);
            }
            if (key != NONE) {
                port.chain.addKeyEntry(bytes, key, port.nextNumber);
                port.nextNumber++;
            }
            return key;
        }

        /** Sends the draft on an interface: to an address, or to all when it is null. */
        private void sendDraft(Port port, Prefix target) {
            Datagram draft = field.draft;
            Prefix own = port.addressOf(draft.family);
            if (own == null) {
                return;
            }
            draft.source.copy(own);
            draft.source.length = Prefix.bitsOf(draft.family);
            draft.toAll = target == null;
            if (target != null) {
                draft.target.copy(target);
            }
            draft.port = Datagram.portOf(draft.family);
            draft.hops = FULL_HOPS;
            draft.sender = this;
            field.launch(port.link);
        }

        /** Sends what was gathered, in as many datagrams as it takes. */
        private void sendTold(Port port, int family, Prefix target) {
            int at = 0;
            while (at < field.told.total) {
                int key = openDraft(port, family, RESPONSE);
                if (key == CLOSED) {
                    return;
                }
                int stop = Math.min(field.told.total, at + port.entryRoom(family, key));
                for (; at < stop; at++) {
                    Route row = field.told.rows[at];
                    field.draft.addEntry(row.prefix, row.tag, row.metric);
                }
                if (key != NONE) {
                    port.chain.seal(field.draft.bytes, key);
                }
                sendDraft(port, target);
            }
        }

        /** Sends a request for all to all on an interface, if it has an address of the family. */
        void ask(Port port, int family) {
            int key = openDraft(port, family, REQUEST);
            if (key == CLOSED) {
                return;
            }
            field.draft.bytes.addZeros(ENTRY - 1);
            field.draft.bytes.add(DEAD);
            if (key != NONE) {
                port.chain.seal(field.draft.bytes, key);
            }
            sendDraft(port, null);
        }

        // ---- what it hears

        /** Its interface to which a datagram comes, or null. */
        Port hearer(Datagram datagram) {
            if (!running || datagram.sender == this) {
                return null;
            }
            Port port = portOn(datagram.link);
            Prefix address = port == null ? null : port.addressOf(datagram.family);
            if (address == null || !datagram.toAll && !address.sameAddress(datagram.target)) {
                return null;
            }
            return port;
        }

        /** Which count of bad ones a datagram belongs to, or SOUND. */
        int judge(Datagram datagram, Port port) {
            Prefix own = port.addressOf(datagram.family);
            if (own == null || !own.covers(datagram.source) || own.sameAddress(datagram.source)) {
                return BAD_SOURCE;
            }
            if (!datagram.isWellFormed()) {
                return BAD_FORM;
            }
            boolean response = datagram.bytes.at(0) == RESPONSE;
            if (response && datagram.port != Datagram.portOf(datagram.family)) {
                return BAD_PORT;
            }
            if (response && datagram.family == 6 && datagram.hops != FULL_HOPS) {
                return BAD_HOPS;
            }
            datagram.from = HEAD;
            datagram.until = datagram.bytes.length;
            if (datagram.family == 4 && !port.opens(datagram, field.time)) {
                return BAD_KEY;
            }
            return SOUND;
        }

        void answer(Datagram datagram, Port port) {
            if (datagram.from >= datagram.until) {
                return;
            }
            counts[REQUESTS]++;
            if (datagram.asksForAll()) {
                gather(port, datagram.family, TELL_ALL);
                sendTold(port, datagram.family, datagram.source);
            } else {
                answerEach(datagram, port);
            }
        }

        private void answerEach(Datagram datagram, Port port) {
            int key = openDraft(port, datagram.family, RESPONSE);
            if (key == CLOSED) {
                return;
            }
            Bytes bytes = field.draft.bytes;
            int metricSize = datagram.family == 4 ? 4 : 1;
            for (int at = datagram.from; at + ENTRY <= datagram.until; at += ENTRY) {
                Route route = null;
                if (datagram.takePrefix(at, field.entry)) {
                    route = table.find(field.entry);
                }
                bytes.addPart(datagram.bytes, at, at + ENTRY - metricSize);
                bytes.addNumber(route == null ? DEAD : route.metric, metricSize);
            }
            if (key != NONE) {
                port.chain.seal(bytes, key);
            }
            sendDraft(port, datagram.source);
        }

        void hearResponse(Datagram datagram, Port port) {
            field.hop.copy(datagram.source);
            for (int at = datagram.from; at + ENTRY <= datagram.until; at += ENTRY) {
                if (datagram.family == 4) {
                    takeHop(datagram, at + 12, port);
                } else if (datagram.metricAt(at) == NEXT_HOP) {
                    takeHop(datagram, at, port);
                    continue;
                }
                hearEntry(datagram, at, port);
            }
        }

        /** Leaves in the field's hop the gateway that an address told in a datagram makes. */
        private void takeHop(Datagram datagram, int at, Port port) {
            Prefix own = port.addressOf(datagram.family);
            field.hop.takeBytes(datagram.bytes, at, datagram.family);
            if (own == null || field.hop.isZero() || !own.covers(field.hop) || own.sameAddress(field.hop)) {
                field.hop.copy(datagram.source);
            }
        }

        private void hearEntry(Datagram datagram, int at, Port port) {
            Prefix prefix = field.entry;
            long metric = datagram.metricAt(at);
            if (!datagram.takePrefix(at, prefix) || metric < 1 || metric > DEAD
                    || prefix.isForbidden() || refuses(IN, port.link, prefix)) {
                counts[IGNORED]++;
                return;
            }
            int sum = raised((int) metric + port.cost, IN, port.link, prefix);
            Route route = table.find(prefix);
            if (route != null) {
                hearAgain(route, datagram, at, port, sum);
            } else if (sum < DEAD) {
                if (table.totalOf(prefix.family) >= MOST_OF_FAMILY) {
                    counts[IGNORED]++;
                } else {
                    take(table.add(prefix, 0, DEAD), datagram, at, port, sum);
                }
            }
        }

        private void hearAgain(Route route, Datagram datagram, int at, Port port, int metric) {
            if (route.kind != LEARNED) {
                return;
            }
            boolean fromIt = route.port == port && route.source.sameAddress(datagram.source);
            boolean less = metric < route.metric;
            boolean takes = less;
            if (fromIt) {
                boolean bothDead = route.metric == DEAD && metric == DEAD;
                boolean differs = metric != route.metric || !route.gateway.sameAddress(field.hop);
                takes |= differs && !bothDead;
                if (route.metric < DEAD && metric < DEAD) {
                    startTimeout(route);
                }
            } else if (!less && metric == route.metric && metric < DEAD) {
                takes = field.time - route.since >= (route.timeout + 1) / 2;
            }
            if (takes) {
                take(route, datagram, at, port, metric);
            }
        }

        /** A learned route becomes what an entry says; a new one is dead and has no way until then. */
        private void take(Route route, Datagram datagram, int at, Port port, int metric) {
            boolean differs = metric != route.metric || port != route.port
                    || !route.gateway.sameAddress(field.hop);
            route.metric = metric;
            route.gateway.copy(field.hop);
            route.source.copy(datagram.source);
            route.port = port;
            route.tag = datagram.tagAt(at);
            if (metric == DEAD) {
                startDeadline(route, timers[GARBAGE]);
            } else {
                startTimeout(route);
            }
            if (differs) {
                markChanged(route);
            }
        }

        // ---- what is asked of it

        Route longestAlive(Prefix address) {
            Route best = null;
            for (int i = 0; i < table.total; i++) {
                Route route = table.rows[i];
                if (route.metric < DEAD && route.prefix.covers(address)
                        && (best == null || route.prefix.length > best.prefix.length)) {
                    best = route;
                }
            }
            return best;
        }

        /** Leaves in best the longest prefix of its own that covers an address, if it is longer. */
        void findLongestOwn(Prefix address, Prefix best) {
            for (int p = 0; p < portTotal; p++) {
                Prefix own = ports[p].addressOf(address.family);
                if (own != null && ports[p].link.up && own.length > best.length && own.covers(address)) {
                    best.copy(own);
                    best.dropBitsBehind();
                }
            }
            for (int i = 0; i < statics.total; i++) {
                Prefix own = statics.rows[i].prefix;
                if (own.length > best.length && own.covers(address)) {
                    best.copy(own);
                }
            }
        }

        /** The metric of its own way to a prefix, or DEAD. */
        int ownSum(Prefix prefix) {
            if (!running) {
                return DEAD;
            }
            Port port = portOf(prefix);
            if (port != null) {
                return port.cost;
            }
            Route own = statics.find(prefix);
            return own == null ? DEAD : own.metric;
        }
    }

    /** Reads lines and does what they say. */
    private static final class Reader {
        private static final int COST = 1;
        private static final int SPLIT = 2;
        private static final int PASSWORD = 3;
        private static final int MD5 = 4;
        private static final int SHA = 5;
        private static final int PASSIVE = 6;
        private static final int LAST_KEY_TIME = 99999;
        private static final int MOST_TAG = 65535;

        private final RoutingField field;
        private final int[] starts = new int[MOST_WORDS];
        private final int[] stops = new int[MOST_WORDS];
        private int total = 0;
        // Where the numbers of a line's two sorts of options stand; 0 if they are not told.
        private int firstAt = 0;
        private int secondAt = 0;
        private final Prefix prefix = new Prefix();
        private final byte[] secret = new byte[Chain.SECRET_ROOM];
        // What a join tells, until it is known that the whole line can be.
        private int cost = NONE;
        private int split = NONE;
        private boolean passive = false;
        private final Chain chain = new Chain();

        Reader(RoutingField field) {
            this.field = field;
        }

        /** The fault of a line, 0 when it was done. */
        int doLine(int from, int to) {
            parse(from, to);
            if (total == 0 || field.tape.at(starts[0]) == '#') {
                return 0;
            }
            if (is(0, "link")) {
                return linkLine();
            } else if (is(0, "router")) {
                return routerLine();
            } else if (is(0, "join")) {
                return joinLine();
            } else if (is(0, "key")) {
                return keyLine();
            } else if (is(0, "nokey")) {
                return nokeyLine();
            } else if (is(0, "static")) {
                return staticLine();
            } else if (is(0, "nostatic")) {
                return nostaticLine();
            } else if (is(0, "filter")) {
                return filterLine();
            } else if (is(0, "list")) {
                return listLine();
            } else if (is(0, "distribute")) {
                return distributeLine();
            } else if (is(0, "offset")) {
                return offsetLine();
            } else if (is(0, "summary")) {
                return summaryLine();
            } else if (is(0, "neighbor")) {
                return neighborLine();
            } else if (is(0, "redistribute")) {
                return redistributeLine();
            } else if (is(0, "default")) {
                return defaultLine();
            }
            return is(0, "timers") ? timersLine() : BAD_WORD;
        }

        // ---- words

        /** Finds the words; those behind the most that any line may have are only counted. */
        private void parse(int from, int to) {
            total = 0;
            boolean inWord = false;
            for (int i = from; i < to; i++) {
                int value = field.tape.at(i);
                boolean blank = value == ' ' || value == '\t';
                if (!blank && !inWord) {
                    total++;
                    if (total <= MOST_WORDS) {
                        starts[total - 1] = i;
                    }
                }
                inWord = !blank;
                if (inWord && total <= MOST_WORDS) {
                    stops[total - 1] = i + 1;
                }
            }
        }

        private boolean isWord(int w) {
            return w >= 0 && w < total && w < MOST_WORDS;
        }

        private boolean is(int w, String some) {
            if (!isWord(w) || stops[w] - starts[w] != some.length()) {
                return false;
            }
            for (int i = 0; i < some.length(); i++) {
                if (field.tape.at(starts[w] + i) != some.charAt(i)) {
                    return false;
                }
            }
            return true;
        }

        private boolean isName(int w) {
            if (!isWord(w) || stops[w] - starts[w] > 12) {
                return false;
            }
            for (int i = starts[w]; i < stops[w]; i++) {
                int value = field.tape.at(i);
                if (!(value >= 'a' && value <= 'z' || value >= '0' && value <= '9')) {
                    return false;
                }
            }
            return true;
        }

        private String nameAt(int w) {
            if (!isWord(w)) {
                return "";
            }
            char[] letters = new char[Math.max(0, stops[w] - starts[w])];
            for (int i = 0; i < letters.length; i++) {
                letters[i] = (char) field.tape.at(starts[w] + i);
            }
            return new String(letters);
        }

        /** A number within its bounds, or NONE. */
        private int number(int w, int least, int most) {
            if (!isWord(w) || stops[w] - starts[w] > 6) {
                return NONE;
            }
            int value = 0;
            for (int i = starts[w]; i < stops[w]; i++) {
                int digit = field.tape.at(i) - '0';
                if (digit < 0 || digit > 9) {
                    return NONE;
                }
                value = value * 10 + digit;
            }
            return value < least || value > most ? NONE : value;
        }

        /** Takes a word as the secret; false when it is none. */
        private boolean takeSecret(int w) {
            if (!isWord(w) || stops[w] - starts[w] > secret.length) {
                return false;
            }
            for (int i = 0; i < secret.length; i++) {
                int value = starts[w] + i < stops[w] ? field.tape.at(starts[w] + i) : 0;
                if (starts[w] + i < stops[w] && (value < 33 || value > 126)) {
                    return false;
                }
                secret[i] = (byte) value;
            }
            return true;
        }

        /** Takes a word as an address and a length; false when it is none, or has bits it may not have. */
        private boolean takePrefix(int w, boolean bitsBehind) {
            if (!isWord(w)) {
                return false;
            }
            int slash = starts[w];
            while (slash < stops[w] && field.tape.at(slash) != '/') {
                slash++;
            }
            return prefix.parseAddress(field.tape, starts[w], slash)
                    && prefix.parseLength(field.tape, slash + 1, stops[w])
                    && (bitsBehind || !prefix.hasBitsBehind());
        }

        private int linkNamed(int w) {
            for (int i = 0; i < field.linkTotal; i++) {
                if (is(w, field.links[i].name)) {
                    return i;
                }
            }
            return NONE;
        }

        private Router routerNamed(int w) {
            for (int i = 0; i < field.routerTotal; i++) {
                if (is(w, field.routers[i].name)) {
                    return field.routers[i];
                }
            }
            return null;
        }

        private int listNamed(int w) {
            for (int i = 0; i < field.listTotal; i++) {
                if (is(w, field.lists[i].name)) {
                    return i;
                }
            }
            return NONE;
        }

        /** The interface that the second and third word name, or null. */
        private Port portNamed() {
            Router router = routerNamed(1);
            Link link = field.linkAt(linkNamed(2));
            return router == null || link == null ? null : router.portOn(link);
        }

        private boolean isEither(int w, String one, String other) {
            return is(w, one) || is(w, other);
        }

        /** Whether from a word on there are only options of two sorts, each with a number behind it. */
        private boolean hasOptions(int from, String one, String other) {
            firstAt = 0;
            secondAt = 0;
            if (total < from || total > from + 4 || (total - from) % 2 != 0) {
                return false;
            }
            for (int w = from; w < total; w += 2) {
                if (is(w, one) && firstAt == 0) {
                    firstAt = w + 1;
                } else if (is(w, other) && secondAt == 0) {
                    secondAt = w + 1;
                } else {
                    return false;
                }
            }
            return true;
        }

        private boolean hasTagOption(int from) {
            firstAt = 0;
            if (total == from + 2 && is(from, "tag")) {
                firstAt = from + 1;
            }
            return total == from || firstAt > 0;
        }

        // ---- lines

        private int linkLine() {
            if (!hasOptions(3, "jitter", "mtu")) {
                return BAD_SHAPE;
            }
            if (!isName(1) || linkNamed(1) != NONE) {
                return BAD_NAME;
            }
            int delay = number(2, 1, 5);
            int jitter = firstAt == 0 ? 0 : number(firstAt, 0, 4);
            int mtu = secondAt == 0 ? 576 : number(secondAt, 84, 576);
            if (delay == NONE || jitter == NONE || mtu == NONE) {
                return BAD_NUMBER;
            }
            if (field.linkTotal >= MOST_LINKS) {
                return TOO_MANY;
            }
            field.links[field.linkTotal] = new Link(nameAt(1), delay, jitter, mtu);
            field.linkTotal++;
            return 0;
        }

        private int routerLine() {
            if (total != 2) {
                return BAD_SHAPE;
            }
            if (!isName(1) || routerNamed(1) != null) {
                return BAD_NAME;
            }
            if (field.routerTotal >= MOST_ROUTERS) {
                return TOO_MANY;
            }
            field.routers[field.routerTotal] = new Router(field, nameAt(1), field.routerTotal);
            field.routerTotal++;
            return 0;
        }

        private int joinLine() {
            if (total < 4 || !hasJoinOptions()) {
                return BAD_SHAPE;
            }
            Router router = routerNamed(1);
            Link link = field.linkAt(linkNamed(2));
            if (router == null || link == null) {
                return BAD_NAME;
            }
            if (!takePrefix(3, true)) {
                return BAD_ADDRESS;
            }
            Port port = router.portOn(link);
            if (port != null && port.addressOf(prefix.family) != null) {
                return BAD_NAME;
            }
            int fault = takeJoinOptions(port);
            if (fault == 0 && port == null && router.portTotal >= MOST_PORTS) {
                fault = TOO_MANY;
            }
            if (fault != 0) {
                return fault;
            }
            if (port == null) {
                port = router.addPort(link);
            }
            setJoined(port);
            if (router.running && link.up) {
                router.settlePort(port);
                router.ask(port, prefix.family);
            }
            return 0;
        }

        private int joinOption(int w) {
            if (is(w, "cost")) {
                return COST;
            } else if (is(w, "split")) {
                return SPLIT;
            } else if (is(w, "password")) {
                return PASSWORD;
            } else if (is(w, "md5")) {
                return MD5;
            } else if (is(w, "sha")) {
                return SHA;
            }
            return is(w, "passive") ? PASSIVE : NONE;
        }

        private static int optionSize(int option) {
            if (option == PASSIVE) {
                return 1;
            }
            return option == MD5 || option == SHA ? 3 : 2;
        }

        private int splitAt(int w) {
            if (is(w, "off")) {
                return SPLIT_OFF;
            } else if (is(w, "simple")) {
                return SPLIT_SIMPLE;
            }
            return is(w, "poison") ? SPLIT_POISON : NONE;
        }

        private boolean hasJoinOptions() {
            int toldOnes = 0;
            int w = 4;
            while (w < total) {
                int option = joinOption(w);
                if (option == NONE || (toldOnes >> option & 1) != 0
                        || option == SPLIT && splitAt(w + 1) == NONE) {
                    return false;
                }
                toldOnes |= 1 << option;
                w += optionSize(option);
            }
            return w == total;
        }

        /** Takes the options of a join, to a copy of what the interface has: 0, or their fault. */
        private int takeJoinOptions(Port port) {
            cost = NONE;
            split = NONE;
            passive = false;
            chain.clear();
            if (port != null) {
                chain.copy(port.chain);
            }
            int fault = 0;
            int w = 4;
            while (w < total) {
                int option = joinOption(w);
                if (option == COST) {
                    cost = number(w + 1, 1, 15);
                    fault = cost == NONE ? BAD_NUMBER : fault;
                } else if (option == SPLIT) {
                    split = splitAt(w + 1);
                } else if (option == PASSIVE) {
                    passive = true;
                } else {
                    int keyFault = takeKeyOption(option, w);
                    // More than may be is judged behind all numbers.
                    fault = keyFault == BAD_NUMBER || fault == 0 ? keyFault : fault;
                }
                w += optionSize(option);
            }
            return fault;
        }

        private int takeKeyOption(int option, int w) {
            if (option == PASSWORD) {
                if (!takeSecret(w + 1)) {
                    return BAD_NUMBER;
                }
                chain.setPassword(secret);
                return 0;
            }
            int keyNumber = number(w + 1, 0, 255);
            if (keyNumber == NONE || !takeSecret(w + 2)) {
                return BAD_NUMBER;
            }
            int size = option == MD5 ? Chain.MD5_SIZE : Chain.SHA_SIZE;
            return chain.setKey(keyNumber, size, secret, 0, LAST_KEY_TIME) ? 0 : TOO_MANY;
        }

        private void setJoined(Port port) {
            port.setAddress(prefix);
            port.chain.copy(chain);
            port.passive |= passive;
            if (cost != NONE) {
                port.cost = cost;
            }
            if (split != NONE) {
                port.split = split;
            }
        }

        private int keyLine() {
            if (total != 8 || !isEither(4, "md5", "sha")) {
                return BAD_SHAPE;
            }
            Port port = portNamed();
            if (port == null) {
                return BAD_NAME;
            }
            int keyNumber = number(3, 0, 255);
            int from = number(6, 0, LAST_KEY_TIME);
            int to = number(7, 0, LAST_KEY_TIME);
            if (keyNumber == NONE || !takeSecret(5) || from == NONE || to == NONE || from > to) {
                return BAD_NUMBER;
            }
            int size = is(4, "md5") ? Chain.MD5_SIZE : Chain.SHA_SIZE;
            return port.chain.setKey(keyNumber, size, secret, from, to) ? 0 : TOO_MANY;
        }

        private int nokeyLine() {
            if (total != 3) {
                return BAD_SHAPE;
            }
            Port port = portNamed();
            if (port == null) {
                return BAD_NAME;
            }
            port.chain.clear();
            return 0;
        }

        private int staticLine() {
            if (total < 4 || !hasTagOption(4)) {
                return BAD_SHAPE;
            }
            Router router = routerNamed(1);
            if (router == null) {
                return BAD_NAME;
            }
            if (!takePrefix(2, false)) {
                return BAD_ADDRESS;
            }
            int metric = number(3, 1, 15);
            int tag = firstAt == 0 ? 0 : number(firstAt, 0, MOST_TAG);
            if (metric == NONE || tag == NONE) {
                return BAD_NUMBER;
            }
            Route own = router.statics.find(prefix);
            if (own == null) {
                if (router.statics.total >= MOST_STATICS) {
                    return TOO_MANY;
                }
                own = router.statics.add(prefix, tag, metric);
            }
            own.metric = metric;
            own.tag = tag;
            router.settle(prefix);
            return 0;
        }

        private int nostaticLine() {
            if (total != 3) {
                return BAD_SHAPE;
            }
            Router router = routerNamed(1);
            if (router == null) {
                return BAD_NAME;
            }
            if (!takePrefix(2, false)) {
                return BAD_ADDRESS;
            }
            if (router.statics.find(prefix) == null) {
                return BAD_NAME;
            }
            router.statics.removeOf(prefix);
            router.settle(prefix);
            return 0;
        }

        private int filterLine() {
            if (total != 5 || !isEither(2, "in", "out") || !isEither(4, "permit", "deny")) {
                return BAD_SHAPE;
            }
            Router router = routerNamed(1);
            if (router == null) {
                return BAD_NAME;
            }
            if (!takePrefix(3, false)) {
                return BAD_ADDRESS;
            }
            PrefixList filters = router.filters[is(2, "in") ? IN : OUT];
            if (filters.isFull()) {
                return TOO_MANY;
            }
            // A filter looks at all that its prefix covers, as an entry with ge of its own length.
            filters.add(prefix, is(4, "permit"), prefix.length, NONE);
            return 0;
        }

        private int listLine() {
            if (!hasOptions(4, "ge", "le") || !isEither(2, "permit", "deny")) {
                return BAD_SHAPE;
            }
            if (!isName(1)) {
                return BAD_NAME;
            }
            if (!takePrefix(3, false)) {
                return BAD_ADDRESS;
            }
            int bits = Prefix.bitsOf(prefix.family);
            int least = number(firstAt, prefix.length, bits);
            int most = number(secondAt, prefix.length, bits);
            if (firstAt > 0 && least == NONE || secondAt > 0 && most == NONE
                    || firstAt > 0 && secondAt > 0 && least > most) {
                return BAD_NUMBER;
            }
            int at = listNamed(1);
            if (at == NONE ? field.listTotal >= MOST_LISTS : field.lists[at].isFull()) {
                return TOO_MANY;
            }
            if (at == NONE) {
                at = field.listTotal;
                field.lists[at] = new PrefixList(nameAt(1), MOST_LIST_ENTRIES);
                field.listTotal++;
            }
            field.lists[at].add(prefix, is(2, "permit"), least, most);
            return 0;
        }

        /** Whether the words from the second on name a router, a link or all, and a list. */
        private boolean namesPolicy() {
            return routerNamed(1) != null && (is(3, "*") || linkNamed(3) != NONE) && listNamed(4) != NONE;
        }

        private void setPolicy(int[] policy, int more) {
            policy[Router.SIDE] = is(2, "in") ? IN : OUT;
            policy[Router.LINK] = linkNamed(3);
            policy[Router.LIST] = listNamed(4);
            policy[Router.MORE] = more;
        }

        private int distributeLine() {
            if (total != 5 || !isEither(2, "in", "out")) {
                return BAD_SHAPE;
            }
            Router router = routerNamed(1);
            if (router == null || !namesPolicy()) {
                return BAD_NAME;
            }
            if (router.distributeTotal >= MOST_POLICIES) {
                return TOO_MANY;
            }
            setPolicy(router.distributes[router.distributeTotal], 0);
            router.distributeTotal++;
            return 0;
        }

        private int offsetLine() {
            if (total != 6 || !isEither(2, "in", "out")) {
                return BAD_SHAPE;
            }
            Router router = routerNamed(1);
            if (router == null || !namesPolicy()) {
                return BAD_NAME;
            }
            int more = number(5, 1, 15);
            if (more == NONE) {
                return BAD_NUMBER;
            }
            if (router.offsetTotal >= MOST_POLICIES) {
                return TOO_MANY;
            }
            setPolicy(router.offsets[router.offsetTotal], more);
            router.offsetTotal++;
            return 0;
        }

        private int summaryLine() {
            if (total != 4) {
                return BAD_SHAPE;
            }
            Port port = portNamed();
            if (port == null) {
                return BAD_NAME;
            }
            if (!takePrefix(3, false)) {
                return BAD_ADDRESS;
            }
            if (port.summaryTotal >= MOST_OF_PORT) {
                return TOO_MANY;
            }
            port.addSummary(prefix);
            return 0;
        }

        private int neighborLine() {
            if (total != 4) {
                return BAD_SHAPE;
            }
            Port port = portNamed();
            if (port == null) {
                return BAD_NAME;
            }
            if (!prefix.parseAddress(field.tape, starts[3], stops[3])) {
                return BAD_ADDRESS;
            }
            if (port.neighborTotal >= MOST_OF_PORT) {
                return TOO_MANY;
            }
            port.addNeighbor(prefix);
            return 0;
        }

        private int redistributeLine() {
            if (total < 4 || !hasTagOption(4) || !isEither(2, "connected", "static")) {
                return BAD_SHAPE;
            }
            Router router = routerNamed(1);
            if (router == null) {
                return BAD_NAME;
            }
            int metric = number(3, 1, 15);
            int tag = firstAt == 0 ? NONE : number(firstAt, 0, MOST_TAG);
            if (metric == NONE && !isEither(3, "own", "off") || firstAt > 0 && tag == NONE) {
                return BAD_NUMBER;
            }
            if (metric == NONE) {
                metric = is(3, "own") ? OWN : OFF;
            }
            int kind = is(2, "connected") ? CONNECTED : STATIC;
            router.shareMetrics[kind] = metric;
            router.shareTags[kind] = tag;
            return 0;
        }

        private int defaultLine() {
            boolean off = is(3, "off");
            boolean only = is(4, "only");
            if (total != 4 && !(total == 5 && only && !off)) {
                return BAD_SHAPE;
            }
            Port port = portNamed();
            if (port == null) {
                return BAD_NAME;
            }
            int metric = off ? 0 : number(3, 1, 15);
            if (metric == NONE) {
                return BAD_NUMBER;
            }
            port.defaultMetric = metric;
            port.defaultOnly = only;
            return 0;
        }

        private int timersLine() {
            if (total != 5) {
                return BAD_SHAPE;
            }
            Router router = routerNamed(1);
            if (router == null) {
                return BAD_NAME;
            }
            for (int i = 0; i < 3; i++) {
                if (number(2 + i, 1, 1000) == NONE) {
                    return BAD_NUMBER;
                }
            }
            for (int i = 0; i < 3; i++) {
                router.timers[i] = number(2 + i, 1, 1000);
            }
            return 0;
        }
    }
}
