import java.util.NoSuchElementException;

/** Promises 1 to 20: the bounds of each call's arguments, refused calls, the tape and the text. */
public final class CallEdgesTest {
    private static final int[] NO_LINKS = {Integer.MIN_VALUE, -1, 2, 3, 10, Integer.MAX_VALUE};
    private static final int[] NO_ROUTERS = {Integer.MIN_VALUE, -1, 3, 4, 6, Integer.MAX_VALUE};

    public static void main(String[] args) {
        empty();
        noSuchLink();
        noSuchRouter();
        whats();
        feeds();
        ends();
        tapeIsEmptyThen();
        tapeStays();
        textStays();
        textAts();
        ticks();
        atTheEndOfTime();
        links();
        loses();
        runs();
        faults();
        putSizes();
        putFamilies();
        putPortsAndHops();
        seenOnes();
        Probe.finish();
    }

    /** Links a and b, routers x, y and z; x and y are on a. */
    private static Probe made() {
        Probe p = new Probe();
        p.setUp("link a 1", "link b 1", "router x", "router y", "router z", "join x a 10.0.0.1/24", "join y a 10.0.0.2/24",
                "static x 10.5.0.0/16 2");
        return p;
    }

    /** No links, no routers, time 0, an empty text. */
    private static void empty() {
        Probe p = new Probe();
        Probe.due("no text", 1, thrown(p, 0));
        Probe.due("no text below", 1, thrown(p, -1));
        Probe.due("now", 0, p.field.now());
        Probe.due("flying", 0, p.field.flying());
        Probe.due("fault", 0, p.field.fault());
        Probe.due("the tape is empty", false, p.field.end(1));
        Probe.due("read", 0, p.field.read());
        Probe.due("config", 0, p.field.config());
        Probe.due("ticks", 3, p.field.ticks(3));
        for (int i = -1; i < 2; i++) {
            Probe.due("link", false, p.field.link(i, true));
            Probe.due("link", false, p.field.link(i, false));
            Probe.due("lose", false, p.field.lose(i, 1));
            Probe.due("run", false, p.field.run(i, true));
            Probe.due("run", false, p.field.run(i, false));
            Probe.due("put", false, p.put(i, 4, 520, 255, "0a000001"));
            Probe.due("show", -1, p.field.show(i, 0));
            Probe.due("oracle", -1, p.oracle(i, "10.0.0.1"));
            Probe.due("way", "NONE", p.way(i, "10.0.0.1"));
            Probe.due("seen", -1, p.field.seen(i));
            Probe.due("count", -1, p.field.count(i, 0));
            Probe.due("routes", -1, p.field.routes(i));
        }
        Probe.due("NONE", -1, RoutingField.NONE);
    }

    private static int thrown(Probe p, int i) {
        try {
            p.field.textAt(i);
        } catch (NoSuchElementException e) {
            return 1;
        }
        return 0;
    }

    private static void noSuchLink() {
        Probe p = made();
        for (int link : NO_LINKS) {
            Probe.due("link up " + link, false, p.field.link(link, true));
            Probe.due("link down " + link, false, p.field.link(link, false));
            Probe.due("lose " + link, false, p.field.lose(link, 0));
            Probe.due("put " + link, false, p.put(link, 4, 520, 255, "0a000009"));
            Probe.due("seen " + link, -1, p.field.seen(link));
        }
        Probe.due("the last one: put", true, p.put(1, 4, 520, 255, "0a000009"));
        Probe.due("the last one: seen", 0, p.field.seen(1));
        Probe.due("the last one: lose", true, p.field.lose(1, 0));
        Probe.due("the last one: link", true, p.field.link(1, false));
        Probe.due("the first one: link", true, p.field.link(0, false));
    }

    private static void noSuchRouter() {
        Probe p = made();
        for (int router : NO_ROUTERS) {
            Probe.due("run " + router, false, p.field.run(router, true));
            Probe.due("stop " + router, false, p.field.run(router, false));
            for (int what = 0; what < 4; what++) {
                Probe.due("show " + router, -1, p.field.show(router, what));
            }
            Probe.due("oracle " + router, -1, p.oracle(router, "10.0.0.1"));
            Probe.due("way " + router, "NONE", p.way(router, "10.0.0.1"));
            Probe.due("count " + router, -1, p.field.count(router, 0));
            Probe.due("routes " + router, -1, p.field.routes(router));
        }
        Probe.due("the last one: show", 0, p.field.show(2, 0));
        Probe.due("the last one: count", 0, p.field.count(2, 0));
        Probe.due("the last one: routes", 0, p.field.routes(2));
        Probe.due("the last one: oracle", 16, p.oracle(2, "10.0.0.1"));
        Probe.due("the last one: run", true, p.field.run(2, false));
        Probe.due("the first one: routes", 2, p.field.routes(0));
        Probe.due("the first one: way", "10.5.0.0/16 2 static", p.way(0, "10.5.0.0"));
    }

    /** Show of 0 to 3, count of 0 to 10; NONE for others. */
    private static void whats() {
        Probe p = made();
        int[] none = {Integer.MIN_VALUE, -1, 4, 11, Integer.MAX_VALUE};
        for (int what : none) {
            Probe.due("show of " + what, -1, p.field.show(0, what));
        }
        for (int what = 0; what < 4; what++) {
            Probe.due("show of " + what, false, p.show(0, what).isEmpty());
        }
        for (int what : new int[] {Integer.MIN_VALUE, -1, 11, 12, Integer.MAX_VALUE}) {
            Probe.due("count of " + what, -1, p.field.count(0, what));
        }
        for (int what = 0; what < 11; what++) {
            Probe.due("count of " + what, true, p.field.count(0, what) >= 0);
        }
    }

    /** Twenty bytes, of each number the highest first; false, changing nothing, beyond 4096. */
    private static void feeds() {
        Probe p = new Probe();
        p.field.feed(0x726f7574, 0x65722061, 0x62636465, 0x66676869, 0x6a6b6c0a);
        Probe.due("one line", 1, p.field.read());
        Probe.due("its bytes in order", "router abcdefghijkl\ntimers abcdefghijkl 30 180 120\n", p.config());
        Probe q = new Probe();
        for (int i = 0; i < 204; i++) {
            Probe.due("feed " + i, true, q.field.feed(0x0a0a0a0a, 0x0a0a0a0a, 0x0a0a0a0a, 0x0a0a0a0a, 0x0a0a0a0a));
        }
        Probe.due("4100 bytes", false, q.field.feed(0x61616161, 0, 0, 0, 0));
        Probe.due("it has 4080 still", false, q.field.end(4081));
        Probe.due("all of them", true, q.field.end(4080));
        Probe.due("none was changed", 4080, q.field.read());
        Probe.due("room again", true, q.field.feed(0x0a0a0a0a, 0, 0, 0, 0));
    }

    private static void filled(int kept, boolean want) {
        Probe p = new Probe();
        for (int i = 0; i < 204; i++) {
            p.field.feed(0x0a0a0a0a, 0x0a0a0a0a, 0x0a0a0a0a, 0x0a0a0a0a, 0x0a0a0a0a);
        }
        p.field.end(kept);
        Probe.due("feed behind " + kept, want, p.field.feed(0x0a0a0a0a, 0x0a0a0a0a, 0x0a0a0a0a, 0x0a0a0a0a, 0x0a0a0a0a));
        Probe.due("read", want ? kept + 20 : kept, p.field.read());
    }

    /** Only the first n count; false when it has not so many, or n is below 0. */
    private static void ends() {
        filled(4075, true);
        filled(4076, true);
        filled(4077, false);
        filled(4080, false);
        filled(0, true);
        Probe p = new Probe();
        for (int n : new int[] {Integer.MIN_VALUE, -1, 1, Integer.MAX_VALUE}) {
            Probe.due("end " + n + " of none", false, p.field.end(n));
        }
        Probe.due("end 0 of none", true, p.field.end(0));
        p.field.feed(0x0a0a0a0a, 0x0a0a0a0a, 0x0a0a0a0a, 0x0a0a0a0a, 0x0a0a0a0a);
        for (int n : new int[] {Integer.MIN_VALUE, -1, 21, 4096, Integer.MAX_VALUE}) {
            Probe.due("end " + n + " of 20", false, p.field.end(n));
        }
        Probe.due("end 20 of 20", true, p.field.end(20));
        Probe.due("end 19 of 20", true, p.field.end(19));
        Probe.due("end 20 of 19", false, p.field.end(20));
        Probe.due("19 lines", 19, p.field.read());
        p.field.feed(0x0a0a0a0a, 0x0a0a0a0a, 0x0a0a0a0a, 0x0a0a0a0a, 0x0a0a0a0a);
        Probe.due("end 0 of 20", true, p.field.end(0));
        Probe.due("no lines", 0, p.field.read());
    }

    /** The tape is empty then, as in all that reads it. */
    private static void tapeIsEmptyThen() {
        Probe p = made();
        p.read("router q");
        Probe.due("behind read", false, p.field.end(1));
        p.read("bogus\nrouter r");
        Probe.due("behind a read that fails", false, p.field.end(1));
        p.put(0, 4, 520, 255, "0a000009");
        Probe.due("behind put", false, p.field.end(1));
        p.put(0, 4, 520, 255, "0a0000");
        Probe.due("behind a put that fails", false, p.field.end(1));
        p.oracle(0, "10.0.0.1");
        Probe.due("behind oracle", false, p.field.end(1));
        p.oracle(0, "bogus");
        Probe.due("behind an oracle that fails", false, p.field.end(1));
        p.way(0, "10.5.0.1");
        Probe.due("behind way", false, p.field.end(1));
        p.way(0, "bogus");
        Probe.due("behind a way that fails", false, p.field.end(1));
    }

    private static void tapeStays() {
        Probe p = made();
        p.feed("router q\nrouter r\nrouter s\n");
        p.field.ticks(1);
        p.field.link(0, false);
        p.field.link(0, true);
        p.field.lose(0, 0);
        p.field.run(0, false);
        p.field.run(0, true);
        p.field.show(0, 0);
        p.field.config();
        p.field.seen(0);
        p.field.count(0, 0);
        p.field.routes(0);
        p.field.flying();
        p.field.now();
        p.field.fault();
        p.field.textAt(0);
        Probe.due("it has its 27 bytes", true, p.field.end(27));
        Probe.due("and not 28", false, p.field.end(28));
        Probe.due("read", 3, p.field.read());
    }

    /** What answers NONE, and what isn't said to make a text, leaves it. */
    private static void textStays() {
        Probe p = made();
        int length = p.field.show(0, 1);
        String text = p.text(length);
        p.field.show(3, 0);
        p.field.show(0, 4);
        p.field.seen(2);
        p.way(0, "200.0.0.1");
        p.way(0, "bogus");
        p.way(3, "10.5.0.1");
        p.oracle(0, "10.5.0.1");
        p.oracle(0, "bogus");
        p.put(1, 4, 520, 255, "0a000009aa");
        p.field.link(1, false);
        p.field.lose(0, 2);
        p.field.run(2, false);
        p.field.ticks(40);
        p.setUp("router q");
        Probe.due("the text stays", text, p.text(length));
        Probe.due("an empty one", 0, p.field.show(2, 0));
        Probe.due("has no byte", 1, thrown(p, 0));
        Probe.due("seen makes it", 1, p.field.seen(1));
        Probe.due("what was put", 0xaa, p.field.textAt(0));
    }

    /** Byte i of the text, 0 .. 255. NoSuchElementException: there is none. */
    private static void textAts() {
        Probe p = made();
        StringBuilder all = new StringBuilder();
        for (int i = 0; i < 256; i++) {
            all.append(String.format("%02x", i));
        }
        p.put(0, 4, 520, 255, "0a000009" + all);
        Probe.due("256 bytes", 256, p.field.seen(0));
        for (int i = 0; i < 256; i++) {
            Probe.due("byte " + i, i, p.field.textAt(i));
        }
        for (int i : new int[] {Integer.MIN_VALUE, -1, 256, 257, Integer.MAX_VALUE}) {
            Probe.due("textAt(" + i + ") throws", 1, thrown(p, i));
        }
        Probe.due("a shorter text", 0, p.field.seen(1));
        Probe.due("has none of them", 1, thrown(p, 0));
    }

    /** 0 .. 2000, not above 20000; NONE changes nothing. */
    private static void ticks() {
        Probe p = new Probe();
        for (int n : new int[] {Integer.MIN_VALUE, -1, 2001, 20000, Integer.MAX_VALUE}) {
            Probe.due("ticks of " + n, -1, p.field.ticks(n));
        }
        Probe.due("now", 0, p.field.now());
        Probe.due("ticks of 0", 0, p.field.ticks(0));
        Probe.due("ticks of 1", 1, p.field.ticks(1));
        Probe.due("ticks of 1999", 2000, p.field.ticks(1999));
        Probe.due("ticks of 2000", 4000, p.field.ticks(2000));
        for (int i = 0; i < 7; i++) {
            p.field.ticks(2000);
        }
        Probe.due("now", 18000, p.field.now());
        Probe.due("ticks of 1", 18001, p.field.ticks(1));
        Probe.due("to 20001", -1, p.field.ticks(2000));
        Probe.due("to 20000", 20000, p.field.ticks(1999));
        Probe.due("no more", -1, p.field.ticks(1));
        Probe.due("but 0", 20000, p.field.ticks(0));
        Probe.due("now", 20000, p.field.now());
    }

    /** At 20000 all but ticks goes on. */
    private static void atTheEndOfTime() {
        Probe p = made();
        for (int i = 0; i < 10; i++) {
            p.field.ticks(2000);
        }
        Probe.due("y has heard x", "10.0.0.0/24 -\n10.5.0.0/16 " + (180 - left(20000)) + "\n", p.show(1, 3));
        p.field.link(0, false);
        Probe.due("it dies", "10.0.0.0/24 120 changed\n10.5.0.0/16 120 changed\n", p.show(1, 3));
        p.setUp("link q 1", "join z q 10.0.9.1/24");
        Probe.due("a request is on its way", 1, p.field.flying());
        Probe.due("and stays so", -1, p.field.ticks(1));
        Probe.due("still", 1, p.field.flying());
    }

    /** Ticks since the latest update of 30, 60 .. came, one tick behind its sending. */
    private static int left(int now) {
        return (now - 1) % 30;
    }

    /** False when there is none, or it is so. */
    private static void links() {
        Probe p = made();
        int sent = p.field.count(0, 5);
        Probe.due("a is up", false, p.field.link(0, true));
        Probe.due("nothing went", sent, p.field.count(0, 5));
        Probe.due("down", true, p.field.link(0, false));
        int changes = p.field.count(0, 7);
        Probe.due("it is down", false, p.field.link(0, false));
        Probe.due("which changed nothing", changes, p.field.count(0, 7));
        Probe.due("up", true, p.field.link(0, true));
        sent = p.field.count(0, 5);
        Probe.due("it is up", false, p.field.link(0, true));
        Probe.due("nothing went", sent, p.field.count(0, 5));
    }

    /** The next n datagrams, 0 or more; false below; in place of what was told before. */
    private static void loses() {
        Probe p = made();
        p.field.ticks(5);
        Probe.due("two", true, p.field.lose(0, 2));
        Probe.due("below 0", false, p.field.lose(0, -1));
        Probe.due("far below 0", false, p.field.lose(0, Integer.MIN_VALUE));
        Probe.due("none is on its way", 0, flyingOf(p));
        Probe.due("nor then", 0, flyingOf(p));
        Probe.due("the third is", 1, flyingOf(p));
        Probe.due("many", true, p.field.lose(0, Integer.MAX_VALUE));
        Probe.due("none more", 1, flyingOf(p));
        Probe.due("0 in its place", true, p.field.lose(0, 0));
        Probe.due("one more", 2, flyingOf(p));
        Probe.due("one", true, p.field.lose(0, 1));
        Probe.due("b has its own", true, p.field.lose(1, 0));
        Probe.due("it is lost", 2, flyingOf(p));
        Probe.due("the next is not", 3, flyingOf(p));
    }

    /** One datagram more goes on a: router z comes or goes there with an address and says so. */
    private static int flyingOf(Probe p) {
        if (!p.show(2, 1).contains("a up")) {
            p.setUp("join z a 10.0.0.3/24");
        } else if (p.field.run(2, false)) {
            return p.field.flying();
        } else {
            p.field.run(2, true);
        }
        return p.field.flying();
    }

    /** False when there is none, or it is so. */
    private static void runs() {
        Probe p = made();
        int sent = p.field.count(0, 5);
        Probe.due("x runs", false, p.field.run(0, true));
        Probe.due("no request", sent, p.field.count(0, 5));
        Probe.due("x stops", true, p.field.run(0, false));
        sent = p.field.count(0, 5);
        Probe.due("x stands", false, p.field.run(0, false));
        Probe.due("nothing told", sent, p.field.count(0, 5));
        Probe.due("y runs", 1, p.field.routes(1));
        Probe.due("x starts", true, p.field.run(0, true));
        Probe.due("z", true, p.field.run(2, false));
    }

    /** The fault of the latest read; 0 for none. */
    private static void faults() {
        Probe p = made();
        String[] lines = {"bogus", "router", "router X", "link q 9", "join x b 10.0.0.1/99"};
        for (int i = 0; i < lines.length; i++) {
            p.read(lines[i]);
            Probe.due("fault of " + lines[i], i + 1, p.field.fault());
            Probe.due("again", i + 1, p.field.fault());
            p.oracle(0, "bogus");
            p.field.ticks(-1);
            Probe.due("no other call is a read", i + 1, p.field.fault());
            p.read("");
            Probe.due("a read of nothing", 0, p.field.fault());
        }
        p.setUp("router r4", "router r5", "router r6");
        p.fault("router r7", 6);
        p.read("bogus");
        p.read("# bogus");
        Probe.due("a read of what is nothing", 0, p.field.fault());
    }

    private static void size(int link, int family, int bytes, boolean want) {
        Probe p = new Probe();
        p.setUp("link a 1", "link b 1 mtu 84", "link c 1 mtu 563", "link d 1 mtu 564", "link e 1 mtu 565");
        String address = "01".repeat(family == 4 ? 4 : 16);
        Probe.due(bytes + " bytes of family " + family + " on " + link, want,
                p.put(link, family, 1, 1, address + "77".repeat(bytes)));
        Probe.due("seen", want ? bytes : 0, p.field.seen(link));
        Probe.due("flying", want ? 1 : 0, p.field.flying());
    }

    /** A source address and a datagram of at most 564 bytes, and the link's M; of no bytes, too. */
    private static void putSizes() {
        for (int family = 4; family <= 6; family += 2) {
            size(0, family, 0, true);
            size(0, family, 1, true);
            size(0, family, 564, true);
            size(0, family, 565, false);
            size(0, family, 576, false);
            size(1, family, 84, true);
            size(1, family, 85, false);
            size(2, family, 563, true);
            size(2, family, 564, false);
            size(3, family, 564, true);
            size(3, family, 565, false);
            size(4, family, 564, true);
            size(4, family, 565, false);
        }
        Probe p = made();
        for (int n = 0; n < 4; n++) {
            Probe.due(n + " bytes are no address of family 4", false, p.put(0, 4, 520, 255, "01".repeat(n)));
        }
        for (int n : new int[] {0, 4, 15}) {
            Probe.due(n + " bytes are no address of family 6", false, p.put(0, 6, 521, 255, "01".repeat(n)));
        }
        Probe.due("16 bytes are one", true, p.put(0, 6, 521, 255, "01".repeat(16)));
        Probe.due("a link that is down", true, p.field.link(1, false));
        Probe.due("no put", false, p.put(1, 4, 520, 255, "01".repeat(4)));
        p.field.link(1, true);
        Probe.due("a put", true, p.put(1, 4, 520, 255, "01".repeat(4)));
    }

    private static void putFamilies() {
        Probe p = made();
        for (int family : new int[] {Integer.MIN_VALUE, -4, 0, 1, 3, 5, 7, 16, 46, Integer.MAX_VALUE}) {
            Probe.due("family " + family, false, p.put(0, family, 520, 255, "01".repeat(30)));
        }
    }

    /** Of a port and with hops, taken as they are. */
    private static void putPortsAndHops() {
        int[] numbers = {Integer.MIN_VALUE, -1, 0, 65536, 520 + 65536, 521 + 65536, Integer.MAX_VALUE};
        Probe p = made();
        p.setUp("join x a fd00::1/64");
        p.field.ticks(2);
        String four = Wire.address("10.0.0.9") + Wire.RESPONSE_4 + Wire.entry("10.6.0.0/16", 0, 1);
        String six = Wire.address("fd00::9") + Wire.RESPONSE_6 + Wire.entry("1::/16", 0, 1);
        for (int number : numbers) {
            Probe.due("port", true, p.put(0, 4, number, 255, four));
            Probe.due("port of family 6", true, p.put(0, 6, number, 255, six));
            Probe.due("hops", true, p.put(0, 6, 521, number, six));
        }
        Probe.due("255 + 256 hops", true, p.put(0, 6, 521, 511, six));
        p.field.ticks(1);
        Probe.due("bad ports", 14, p.field.count(0, 9));
        Probe.due("bad hops", 8, p.field.count(0, 10));
        Probe.due("nothing learned", 3, p.field.routes(0));
    }

    /** The latest that went, or was put, or was lost; 0 if none. */
    private static void seenOnes() {
        Probe p = made();
        p.field.ticks(5);
        Probe.due("none on b", 0, p.field.seen(1));
        p.field.lose(1, 1);
        p.setUp("join z b 10.0.1.3/24");
        Probe.due("a lost one", Wire.REQUEST_4 + Wire.ALL_4, p.seen(1));
        p.put(1, 4, 520, 255, "0a000009" + "abcd");
        Probe.due("one that was put", "abcd", p.seen(1));
        p.put(1, 4, 520, 255, "0a0000");
        Probe.due("not one that was not", "abcd", p.seen(1));
        p.put(1, 4, 520, 255, "0a000009");
        Probe.due("one of no bytes", "", p.seen(1));
        p.setUp("join z b fd00::3/64");
        Probe.due("one that went", Wire.REQUEST_6 + Wire.ALL_6, p.seen(1));
        p.field.ticks(3);
        Probe.due("also when it came", Wire.REQUEST_6 + Wire.ALL_6, p.seen(1));
    }
}
