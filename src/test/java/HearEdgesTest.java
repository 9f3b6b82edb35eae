/** Promises 10, 17 and 18 at the bounds of receiving: sources, forms, ports, entries, metrics, ways. */
public final class HearEdgesTest {
    private static final String ENTRY = Wire.entry("11.0.0.0/8", 0, 1);
    private static final String ENTRY_6 = Wire.entry("11::/16", 0, 1);

    public static void main(String[] args) {
        sources();
        networksOfTwoLengths();
        sizes();
        heads();
        ports();
        hops();
        theFirstThatHolds();
        masks();
        familyBytes();
        metrics();
        metricsAndCosts();
        forbidden();
        nextHops();
        nextHopsOfFamilySix();
        sixty();
        sixtyOfFamilySix();
        halves();
        lessOrTheSame();
        requestsForAll();
        requestsForSome();
        requestMetrics();
        Probe.finish();
    }

    private static Probe made(String address) {
        Probe p = new Probe();
        p.setUp("link a 1", "router x", "join x a " + address, "timers x 1000 1000 1000");
        p.field.ticks(3);
        return p;
    }

    private static void hear(Probe p, String source, String datagram) {
        boolean six = source.contains(":");
        p.put(0, six ? 6 : 4, six ? 521 : 520, 255, Wire.address(source) + datagram);
        p.field.ticks(1);
    }

    private static void source(String address, String source, boolean good) {
        Probe p = made(address);
        boolean six = source.contains(":");
        hear(p, source, six ? Wire.RESPONSE_6 + ENTRY_6 : Wire.RESPONSE_4 + ENTRY);
        Probe.due(source + " at " + address + ": came", 1, p.field.count(0, 0));
        Probe.due(source + " at " + address + ": bad sources", good ? 0 : 1, p.field.count(0, 1));
        Probe.due(source + " at " + address + ": learned", good ? 2 : 1, p.field.routes(0));
    }

    /** The source isn't in the network of the interface's address, or is that. */
    private static void sources() {
        source("10.0.0.1/24", "10.0.0.0", true);
        source("10.0.0.1/24", "10.0.0.1", false);
        source("10.0.0.1/24", "10.0.0.2", true);
        source("10.0.0.1/24", "10.0.0.255", true);
        source("10.0.0.1/24", "10.0.1.0", false);
        source("10.0.0.1/24", "9.255.255.255", false);
        source("10.0.0.1/0", "255.255.255.255", true);
        source("10.0.0.1/0", "0.0.0.0", true);
        source("10.0.0.1/0", "10.0.0.1", false);
        source("10.0.0.1/31", "10.0.0.0", true);
        source("10.0.0.1/31", "10.0.0.2", false);
        source("10.0.0.1/32", "10.0.0.0", false);
        source("10.0.0.1/32", "10.0.0.1", false);
        source("fd00::1/64", "fd00::", true);
        source("fd00::1/64", "fd00::1", false);
        source("fd00::1/64", "fd00::ffff:ffff:ffff:ffff", true);
        source("fd00::1/64", "fd00:0:0:1::", false);
        source("fd00::1/65", "fd00::7fff:ffff:ffff:ffff", true);
        source("fd00::1/65", "fd00::8000:0:0:0", false);
        source("fd00::1/63", "fd00:0:0:1::", true);
        source("fd00::1/63", "fd00:0:0:2::", false);
        source("fd00::1/0", "::", true);
        source("fd00::1/127", "fd00::", true);
        source("fd00::1/127", "fd00::2", false);
        source("fd00::1/128", "fd00::", false);
    }

    /** The network is that of the hearer's address, whatever length the sender's has. */
    private static void networksOfTwoLengths() {
        for (int family = 4; family <= 6; family += 2) {
            Probe p = new Probe();
            p.setUp("link a 1", "router x", "router y", "join x a " + (family == 4 ? "10.0.0.1/24" : "fd00::1/64"),
                    "join y a " + (family == 4 ? "10.0.0.2/16" : "fd00::2/32"), "static x 11.0.0.0/8 1", "static x 11::/16 1",
                    "static y 12.0.0.0/8 1", "static y 12::/16 1");
            p.field.ticks(5);
            Probe.due("no bad source for x", 0, p.field.count(0, 1));
            Probe.due("nor for y", 0, p.field.count(1, 1));
            Probe.due("x has heard y", family == 4 ? "12.0.0.0/8 2 via 10.0.0.2 a" : "12::/16 2 via fd00::2 a",
                    p.way(0, family == 4 ? "12.0.0.1" : "12::1"));
            Probe.due("y has heard x", family == 4 ? "11.0.0.0/8 2 via 10.0.0.1 a" : "11::/16 2 via fd00::1 a",
                    p.way(1, family == 4 ? "11.0.0.1" : "11::1"));
        }
    }

    /** What each count from 1 on is, but those of what x sends; one datagram is put. */
    private static void counted(String what, int count, int family, int port, int hops, String datagram) {
        Probe p = new Probe();
        p.setUp("link a 1", "router x", "join x a 10.0.0.1/24", "join x a fd00::1/64");
        p.field.ticks(3);
        p.put(0, family, port, hops, Wire.address(family == 4 ? "10.0.0.2" : "fd00::2") + datagram);
        p.field.ticks(1);
        Probe.due(what + ": came", 1, p.field.count(0, 0));
        for (int i : new int[] {1, 2, 3, 4, 8, 9, 10}) {
            Probe.due(what + ": count " + i, i == count ? 1 : 0, p.field.count(0, i));
        }
    }

    /** 4 + 20 * n bytes, n from 1 to 25 (of family 4 to 28). */
    private static void sizes() {
        for (int n : new int[] {0, 1, 2, 24, 25, 26, 27, 28}) {
            counted(n + " entries of family 4", n < 1 ? 2 : 0, 4, 520, 255, Wire.RESPONSE_4 + ENTRY.repeat(n));
            counted(n + " entries of family 6", n < 1 || n > 25 ? 2 : 0, 6, 521, 255, Wire.RESPONSE_6 + ENTRY_6.repeat(n));
            if (n < 28) {
                counted("a byte more", 2, 4, 520, 255, Wire.RESPONSE_4 + ENTRY.repeat(n) + "00");
                counted("19 bytes more", 2, 4, 520, 255, Wire.RESPONSE_4 + ENTRY.repeat(n) + "00".repeat(19));
                counted("a byte more of family 6", 2, 6, 521, 255, Wire.RESPONSE_6 + ENTRY_6.repeat(n) + "00");
            }
        }
        for (int n = 0; n < 4; n++) {
            counted(n + " bytes", 2, 4, 520, 255, Wire.RESPONSE_4.substring(0, 2 * n));
            counted(n + " bytes of family 6", 2, 6, 521, 255, Wire.RESPONSE_6.substring(0, 2 * n));
        }
    }

    /** Command, version and 0s as said. */
    private static void heads() {
        for (int command : new int[] {0, 1, 2, 3, 4, 255}) {
            int four = command == 1 ? 8 : command == 2 ? 0 : 2;
            counted("command " + command, four, 4, 520, 255, Wire.number(command, 1) + "020000" + ENTRY);
            counted("command " + command, four, 6, 521, 255, Wire.number(command, 1) + "010000" + ENTRY_6);
        }
        for (int version : new int[] {0, 1, 2, 3, 255}) {
            counted("version " + version, version == 2 ? 0 : 2, 4, 520, 255, "02" + Wire.number(version, 1) + "0000" + ENTRY);
            counted("version " + version, version == 1 ? 0 : 2, 6, 521, 255, "02" + Wire.number(version, 1) + "0000" + ENTRY_6);
        }
        for (String zeros : new String[] {"0001", "0100", "ff00", "00ff"}) {
            counted("0s " + zeros, 2, 4, 520, 255, "0202" + zeros + ENTRY);
            counted("0s " + zeros, 2, 6, 521, 255, "0201" + zeros + ENTRY_6);
            counted("0s of a request " + zeros, 2, 4, 520, 255, "0102" + zeros + Wire.ALL_4);
        }
    }

    /** A response, of another port; requests are of any. */
    private static void ports() {
        for (int port : new int[] {0, 519, 520, 521, 522, 65535}) {
            counted("port " + port, port == 520 ? 0 : 9, 4, port, 255, Wire.RESPONSE_4 + ENTRY);
            counted("port " + port + " of family 6", port == 521 ? 0 : 9, 6, port, 255, Wire.RESPONSE_6 + ENTRY_6);
            counted("a request of " + port, 8, 4, port, 255, Wire.REQUEST_4 + Wire.ALL_4);
            counted("a request of " + port + " of family 6", 8, 6, port, 255, Wire.REQUEST_6 + Wire.ALL_6);
        }
    }

    /** A response of family 6, of other hops. */
    private static void hops() {
        for (int hops : new int[] {0, 1, 254, 255, 256}) {
            counted("hops " + hops, 0, 4, 520, hops, Wire.RESPONSE_4 + ENTRY);
            counted("hops " + hops + " of family 6", hops == 255 ? 0 : 10, 6, 521, hops, Wire.RESPONSE_6 + ENTRY_6);
            counted("a request of " + hops, 8, 6, 521, hops, Wire.REQUEST_6 + Wire.ALL_6);
        }
    }

    /** 1 before 2 before 3 before 4; keys are the last. */
    private static void theFirstThatHolds() {
        Probe p = new Probe();
        p.setUp("link a 1", "router x", "join x a 10.0.0.1/24", "join x a fd00::1/64");
        p.field.ticks(3);
        p.put(0, 4, 1, 1, Wire.address("10.0.1.2") + "00");
        p.put(0, 4, 1, 1, Wire.address("10.0.0.2") + "00");
        p.put(0, 4, 1, 1, Wire.address("10.0.0.2") + Wire.RESPONSE_4 + Wire.password("w"));
        p.put(0, 6, 1, 1, Wire.address("fd00::2") + Wire.RESPONSE_6 + ENTRY_6);
        p.put(0, 6, 521, 1, Wire.address("fd00::2") + Wire.RESPONSE_6 + ENTRY_6);
        p.put(0, 4, 520, 1, Wire.address("10.0.0.2") + Wire.RESPONSE_4 + Wire.password("w"));
        p.put(0, 4, 1, 1, Wire.address("10.0.0.2") + Wire.REQUEST_4 + Wire.password("w"));
        p.field.ticks(1);
        int[] want = {7, 1, 1, 2, 0, 2, 1, 2, 0, 2, 1};
        for (int i = 0; i < want.length; i++) {
            Probe.due("count " + i, want[i], p.field.count(0, i));
        }
    }

    private static void entry(String what, String source, String entry, boolean taken) {
        Probe p = made(source.contains(":") ? "fd00::1/64" : "10.0.0.1/24");
        hear(p, source, (source.contains(":") ? Wire.RESPONSE_6 : Wire.RESPONSE_4) + entry);
        Probe.due(what + ": ignored", taken ? 0 : 1, p.field.count(0, 4));
        Probe.due(what + ": learned", taken ? 2 : 1, p.field.routes(0));
    }

    private static String four(String address, String mask, long metric) {
        return "00020000" + Wire.address(address) + mask + "00000000" + Wire.number(metric, 4);
    }

    /** A mask is 1s then 0s, and no bit of the prefix is behind it; lengths up to 128. */
    private static void masks() {
        for (int length = 0; length <= 32; length++) {
            entry("length " + length, "10.0.0.2", four("0.0.0.0", Wire.mask(length), 1), true);
        }
        for (String mask : new String[] {"00000001", "7fffffff", "ff00ff00", "fffffffd", "80000001", "bfffffff", "fffe0001"}) {
            entry("mask " + mask, "10.0.0.2", four("0.0.0.0", mask, 1), false);
        }
        entry("a bit behind", "10.0.0.2", four("11.0.0.128", "ffffff00", 1), false);
        entry("the last bit", "10.0.0.2", four("11.0.0.1", "fffffffe", 1), false);
        entry("all bits", "10.0.0.2", four("11.0.0.1", "ffffffff", 1), true);
        entry("a bit with length 0", "10.0.0.2", four("128.0.0.0", "00000000", 1), false);
        entry("length 128", "fd00::2", Wire.entry("11::1/128", 0, 1), true);
        entry("length 129", "fd00::2", Wire.entry("::/129", 0, 1), false);
        entry("length 255", "fd00::2", Wire.entry("::/255", 0, 1), false);
        entry("length 0", "fd00::2", Wire.entry("::/0", 0, 1), true);
        entry("a bit with length 0", "fd00::2", Wire.entry("8000::/0", 0, 1), false);
        entry("a bit behind 64", "fd00::2", Wire.entry("11::8000:0:0:0/64", 0, 1), false);
        entry("a bit in 65", "fd00::2", Wire.entry("11::8000:0:0:0/65", 0, 1), true);
        entry("the last bit", "fd00::2", Wire.entry("11::1/127", 0, 1), false);
    }

    private static void familyBytes() {
        for (String bytes : new String[] {"0000", "0001", "0003", "0102", "0202", "ff02", "ff00", "fffe"}) {
            entry("family bytes " + bytes, "10.0.0.2", bytes + ENTRY.substring(4), false);
        }
        entry("family bytes 0 2", "10.0.0.2", "0002" + ENTRY.substring(4), true);
    }

    /** A metric of 1 .. 16; with 16 nothing comes. */
    private static void metrics() {
        for (long metric : new long[] {0, 17, 255, 256, 257, 0x10001, 0x1000001, 0x7fffffffL, 0x80000001L, 0xffffffffL}) {
            entry("metric " + metric, "10.0.0.2", Wire.entry("11.0.0.0/8", 0, metric), false);
        }
        for (int metric : new int[] {0, 17, 18, 254}) {
            entry("metric " + metric, "fd00::2", Wire.entry("11::/16", 0, metric), false);
        }
        for (int metric : new int[] {1, 2, 14}) {
            entry("metric " + metric, "10.0.0.2", Wire.entry("11.0.0.0/8", 0, metric), true);
            entry("metric " + metric, "fd00::2", Wire.entry("11::/16", 0, metric), true);
        }
        for (int metric : new int[] {15, 16}) {
            for (String source : new String[] {"10.0.0.2", "fd00::2"}) {
                boolean six = source.contains(":");
                Probe p = made(six ? "fd00::1/64" : "10.0.0.1/24");
                hear(p, source, (six ? Wire.RESPONSE_6 : Wire.RESPONSE_4) + Wire.entry(six ? "11::/16" : "11.0.0.0/8", 0, metric));
                Probe.due("metric " + metric + " with its cost is 16: not ignored", 0, p.field.count(0, 4));
                Probe.due("nor learned", 1, p.field.routes(0));
            }
        }
        Probe p = made("fd00::1/64");
        hear(p, "fd00::2", Wire.RESPONSE_6 + Wire.entry("11::/16", 0, 255));
        Probe.due("255 is no entry", 0, p.field.count(0, 4));
        Probe.due("and no route", 1, p.field.routes(0));
    }

    /** Metric + cost, + N of the first offset in; 16 at most. */
    private static void metricsAndCosts() {
        int[][] sums = {{1, 1, 0, 2}, {14, 1, 0, 15}, {15, 1, 0, 16}, {1, 14, 0, 15}, {1, 15, 0, 16}, {16, 15, 0, 16},
            {1, 1, 13, 15}, {1, 1, 14, 16}, {15, 15, 15, 16}, {7, 7, 1, 15}, {7, 7, 2, 16}};
        for (int[] one : sums) {
            Probe p = new Probe();
            p.setUp("link a 1", "link b 1", "router x", "join x a 10.0.0.1/24 cost " + one[1], "list all permit 0.0.0.0/0 le 32",
                    "list none deny 0.0.0.0/0", "offset x out * all 9", "offset x in b all 9", "offset x in a none 9");
            if (one[2] > 0) {
                p.setUp("offset x in a all " + one[2], "offset x in * all 1");
            }
            p.field.ticks(3);
            hear(p, "10.0.0.2", Wire.RESPONSE_4 + Wire.entry("11.0.0.0/8", 0, one[0]));
            String what = one[0] + " and cost " + one[1] + " and " + one[2];
            Probe.due(what, one[3] == 16 ? "NONE" : "11.0.0.0/8 " + one[3] + " via 10.0.0.2 a", p.way(0, "11.0.0.1"));
            Probe.due("none is ignored", 0, p.field.count(0, 4));
        }
    }

    /** In 127.0.0.0/8, 224.0.0.0/3, fe80::/10 or ff00::/8: ignored; what only overlaps them is not. */
    private static void forbidden() {
        String[] in = {"127.0.0.0/8", "127.0.0.0/9", "127.128.0.0/9", "127.255.255.255/32", "224.0.0.0/3", "224.0.0.0/4",
            "240.0.0.0/4", "255.255.255.255/32", "239.0.0.0/8", "fe80::/10", "fe80::/11", "fea0::/11", "febf:ffff::/32",
            "fe80::1/128", "ff00::/8", "ff80::/9", "ffff:ffff::/32", "ff00::/128"};
        String[] out = {"126.0.0.0/7", "126.255.255.255/32", "128.0.0.0/8", "0.0.0.0/0", "0.0.0.0/1", "192.0.0.0/2", "128.0.0.0/1",
            "223.255.255.255/32", "192.0.0.0/3", "fe80::/9", "fec0::/10", "fe7f:ffff::/32", "fe40::/10", "fe00::/8", "fe00::/7",
            "::/0", "8000::/1", "fc00::/6"};
        for (String prefix : in) {
            entry(prefix, prefix.contains(":") ? "fd00::2" : "10.0.0.2", Wire.entry(prefix, 0, 1), false);
        }
        for (String prefix : out) {
            entry(prefix, prefix.contains(":") ? "fd00::2" : "10.0.0.2", Wire.entry(prefix, 0, 1), true);
        }
    }

    /** The next hop, if it isn't 0 and the network covers it, and it isn't its own address. */
    private static void nextHops() {
        String[][] hops = {{"10.0.0.0", "10.0.0.0"}, {"10.0.0.255", "10.0.0.255"}, {"10.0.1.0", "10.0.0.2"},
            {"9.255.255.255", "10.0.0.2"}, {"10.0.0.1", "10.0.0.2"}, {"0.0.0.0", "10.0.0.2"}, {"10.0.0.2", "10.0.0.2"},
            {"255.255.255.255", "10.0.0.2"}};
        for (String[] one : hops) {
            Probe p = made("10.0.0.1/24");
            hear(p, "10.0.0.2", Wire.RESPONSE_4 + Wire.entry("11.0.0.0/8", 0, one[0], 1));
            Probe.due("next hop " + one[0], "11.0.0.0/8 2 via " + one[1] + " a", p.way(0, "11.0.0.1"));
        }
        Probe p = made("10.0.0.1/0");
        hear(p, "10.0.0.2", Wire.RESPONSE_4 + Wire.entry("11.0.0.0/8", 0, "0.0.0.0", 1));
        Probe.due("0 in a network of all", "11.0.0.0/8 2 via 10.0.0.2 a", p.way(0, "11.0.0.1"));
        hear(p, "10.0.0.2", Wire.RESPONSE_4 + Wire.entry("12.0.0.0/8", 0, "0.0.0.1", 1));
        Probe.due("1 in a network of all", "12.0.0.0/8 2 via 0.0.0.1 a", p.way(0, "12.0.0.1"));
    }

    /** The latest entry with 255, of those ahead; none of the next datagram. */
    private static void nextHopsOfFamilySix() {
        String[][] hops = {{"fd00::", "fd00::"}, {"fd00::ffff:ffff:ffff:ffff", "fd00::ffff:ffff:ffff:ffff"},
            {"fd00:0:0:1::", "fd00::2"}, {"fd00::1", "fd00::2"}, {"::", "fd00::2"}, {"fcff:ffff::", "fd00::2"}};
        for (String[] one : hops) {
            Probe p = made("fd00::1/64");
            hear(p, "fd00::2", Wire.RESPONSE_6 + Wire.nextHop("fd00::7") + Wire.nextHop(one[0]) + ENTRY_6 + Wire.nextHop("fd00::8"));
            Probe.due("next hop " + one[0], "11::/16 2 via " + one[1] + " a", p.way(0, "11::1"));
            Probe.due("none is ignored", 0, p.field.count(0, 4));
            hear(p, "fd00::2", Wire.RESPONSE_6 + Wire.entry("12::/16", 0, 1));
            Probe.due("not of the datagram before", "12::/16 2 via fd00::2 a", p.way(0, "12::1"));
        }
        Probe p = made("fd00::1/64");
        hear(p, "fd00::2", Wire.RESPONSE_6 + Wire.address("fd00::9") + "ffff" + "fe" + "ff" + ENTRY_6);
        Probe.due("whatever its tag and length", "11::/16 2 via fd00::9 a", p.way(0, "11::1"));
    }

    /** If the router has less than 60 routes of the family; else it is ignored and counted. */
    private static void sixty() {
        Probe p = made("10.0.0.1/24");
        p.setUpMany(20, "static x 13.%d.0.0/16 1");
        p.setUp("nostatic x 13.0.0.0/16");
        StringBuilder first = new StringBuilder();
        StringBuilder rest = new StringBuilder();
        for (int i = 0; i < 38; i++) {
            (i < 28 ? first : rest).append(Wire.entry("11." + i + ".0.0/16", 0, 1));
        }
        hear(p, "10.0.0.2", Wire.RESPONSE_4 + first);
        hear(p, "10.0.0.2", Wire.RESPONSE_4 + rest);
        Probe.due("59, a dying one among them", 59, p.field.routes(0));
        hear(p, "10.0.0.2", Wire.RESPONSE_4 + Wire.entry("12.0.0.0/16", 0, 1) + Wire.entry("12.1.0.0/16", 0, 1)
                + Wire.entry("12.2.0.0/16", 0, 16) + Wire.entry("12.3.0.0/16", 0, 15));
        Probe.due("the sixtieth comes", 60, p.field.routes(0));
        Probe.due("one more is ignored, with 16 nothing", 1, p.field.count(0, 4));
        hear(p, "10.0.0.2", Wire.RESPONSE_4 + Wire.entry("12.0.0.0/16", 0, 3) + Wire.entry("13.0.0.0/16", 0, 3)
                + Wire.entry("13.1.0.0/16", 0, 3));
        Probe.due("those that are there are heard", 1, p.field.count(0, 4));
        Probe.due("also the dying one", "13.0.0.0/16 4 via 10.0.0.2 a", p.way(0, "13.0.0.1"));
        p.setUp("static x 14.0.0.0/8 1", "join x a fd00::1/64");
        Probe.due("its own come", 62, p.field.routes(0));
        hear(p, "fd00::2", Wire.RESPONSE_6 + ENTRY_6);
        Probe.due("family 6 has its own", 63, p.field.routes(0));
    }

    private static void sixtyOfFamilySix() {
        Probe p = made("fd00::1/64");
        p.setUp("timers x 1000 1000 5");
        p.setUpMany(32, "static x 13:%d::/32 1");
        StringBuilder some = new StringBuilder();
        for (int i = 0; i < 25; i++) {
            some.append(Wire.entry("11:" + i + "::/32", 0, 1));
        }
        hear(p, "fd00::2", Wire.RESPONSE_6 + some);
        Probe.due("58", 58, p.field.routes(0));
        String four = Wire.entry("12:1::/32", 0, 1) + Wire.entry("12:2::/32", 0, 1) + Wire.entry("12:3::/32", 0, 1)
                + Wire.entry("12:4::/32", 0, 1);
        hear(p, "fd00::2", Wire.RESPONSE_6 + four);
        Probe.due("60", 60, p.field.routes(0));
        Probe.due("two are ignored", 2, p.field.count(0, 4));
        hear(p, "fd00::2", Wire.RESPONSE_6 + Wire.entry("12:1::/32", 0, 16) + Wire.entry("12:3::/32", 0, 1));
        Probe.due("a dying one takes its place still", 3, p.field.count(0, 4));
        p.field.ticks(5);
        Probe.due("59", 59, p.field.routes(0));
        hear(p, "fd00::2", Wire.RESPONSE_6 + Wire.entry("12:3::/32", 0, 1) + Wire.entry("12:4::/32", 0, 1));
        Probe.due("60 again", 60, p.field.routes(0));
        Probe.due("one more is ignored", 4, p.field.count(0, 4));
    }

    /** The metric the same, below 16, and half its TIMEOUT (rounded up) or more has passed. */
    private static void halves() {
        int[][] halves = {{1, 1}, {2, 1}, {3, 2}, {4, 2}, {9, 5}, {10, 5}, {99, 50}, {100, 50}, {999, 500}, {1000, 500}};
        for (int[] one : halves) {
            for (int early = 0; early < 2; early++) {
                int wait = one[1] - early;
                if (wait < 1) {
                    continue;
                }
                Probe p = made("10.0.0.1/24");
                p.setUp("timers x 1000 " + one[0] + " 1000");
                hear(p, "10.0.0.2", Wire.RESPONSE_4 + ENTRY);
                p.setUp("timers x 1000 700 1000");
                p.field.ticks(wait - 1);
                hear(p, "10.0.0.3", Wire.RESPONSE_4 + ENTRY);
                Probe.due(wait + " of " + one[0], "11.0.0.0/8 2 via 10.0.0." + (early == 0 ? 3 : 2) + " a", p.way(0, "11.0.0.1"));
            }
        }
        Probe p = made("10.0.0.1/24");
        p.setUp("timers x 1000 10 1000");
        hear(p, "10.0.0.2", Wire.RESPONSE_4 + ENTRY);
        p.field.ticks(3);
        hear(p, "10.0.0.2", Wire.RESPONSE_4 + ENTRY);
        p.field.ticks(3);
        hear(p, "10.0.0.3", Wire.RESPONSE_4 + ENTRY);
        Probe.due("4 since it was heard again", "11.0.0.0/8 2 via 10.0.0.2 a", p.way(0, "11.0.0.1"));
        hear(p, "10.0.0.3", Wire.RESPONSE_4 + Wire.entry("11.0.0.0/8", 0, 2));
        Probe.due("5, but the metric is more", "11.0.0.0/8 2 via 10.0.0.2 a", p.way(0, "11.0.0.1"));
        hear(p, "10.0.0.3", Wire.RESPONSE_4 + ENTRY);
        Probe.due("6", "11.0.0.0/8 2 via 10.0.0.3 a", p.way(0, "11.0.0.1"));
        hear(p, "10.0.0.3", Wire.RESPONSE_4 + Wire.entry("11.0.0.0/8", 0, 16));
        p.field.ticks(300);
        hear(p, "10.0.0.2", Wire.RESPONSE_4 + Wire.entry("11.0.0.0/8", 0, 16));
        Probe.due("16 is never taken over", true, p.show(0, 0).contains("11.0.0.0/8 16 via 10.0.0.3 a\n"));
    }

    /** Heard from this source on this interface, or the metric is less. */
    private static void lessOrTheSame() {
        Probe p = new Probe();
        p.setUp("link a 1", "link b 1", "router x", "join x a 10.0.0.1/16", "join x b 10.0.9.1/16", "timers x 1000 1000 1000");
        p.field.ticks(3);
        hear(p, "10.0.0.2", Wire.RESPONSE_4 + Wire.entry("11.0.0.0/8", 0, 5));
        p.put(1, 4, 520, 255, Wire.address("10.0.0.2") + Wire.RESPONSE_4 + Wire.entry("11.0.0.0/8", 0, 6));
        p.field.ticks(1);
        Probe.due("the same source on another interface is another", "11.0.0.0/8 6 via 10.0.0.2 a", p.way(0, "11.0.0.1"));
        p.put(1, 4, 520, 255, Wire.address("10.0.0.2") + Wire.RESPONSE_4 + Wire.entry("11.0.0.0/8", 0, 5));
        p.field.ticks(1);
        Probe.due("also with the same metric", "11.0.0.0/8 6 via 10.0.0.2 a", p.way(0, "11.0.0.1"));
        p.put(1, 4, 520, 255, Wire.address("10.0.0.2") + Wire.RESPONSE_4 + Wire.entry("11.0.0.0/8", 0, 4));
        p.field.ticks(1);
        Probe.due("one less", "11.0.0.0/8 5 via 10.0.0.2 b", p.way(0, "11.0.0.1"));
        hear(p, "10.0.0.2", Wire.RESPONSE_4 + Wire.entry("11.0.0.0/8", 0, 16));
        Probe.due("it was heard on b", "11.0.0.0/8 5 via 10.0.0.2 b", p.way(0, "11.0.0.1"));
        p.put(1, 4, 520, 255, Wire.address("10.0.0.2") + Wire.RESPONSE_4 + Wire.entry("11.0.0.0/8", 0, 15));
        p.field.ticks(1);
        Probe.due("15 and the cost are 16", "NONE", p.way(0, "11.0.0.1"));
    }

    private static String asked(String source, String datagram) {
        Probe p = new Probe();
        p.setUp("link a 1", "router x", "join x a 10.0.0.1/24", "join x a fd00::1/64", "static x 12.0.0.0/8 3 tag 4",
                "static x 12::/16 5 tag 6", "static x 0.0.0.0/0 7", "static x ::/0 8");
        p.field.ticks(3);
        hear(p, source, datagram);
        return p.seen(0);
    }

    /** With one entry alone: family bytes 0 0 and metric 16; of family 6 all 0 but metric 16. */
    private static void requestsForAll() {
        String four = Wire.RESPONSE_4 + Wire.entry("0.0.0.0/0", 0, 7) + Wire.entry("12.0.0.0/8", 4, 3);
        String six = Wire.RESPONSE_6 + Wire.entry("::/0", 0, 8) + Wire.entry("12::/16", 6, 5);
        Probe.due("for all", four, asked("10.0.0.2", Wire.REQUEST_4 + Wire.ALL_4));
        Probe.due("for all of family 6", six, asked("fd00::2", Wire.REQUEST_6 + Wire.ALL_6));
        Probe.due("with a tag and more", four, asked("10.0.0.2", Wire.REQUEST_4 + "0000" + "ff".repeat(14) + "00000010"));
        String zeros = "00".repeat(12);
        for (String metric : new String[] {"0000000f", "00000011", "00000000", "00000110", "01000010"}) {
            Probe.due("metric " + metric, Wire.RESPONSE_4 + "00000000" + zeros + "00000010",
                    asked("10.0.0.2", Wire.REQUEST_4 + "00000000" + zeros + metric));
        }
        for (String bytes : new String[] {"0001", "0100"}) {
            Probe.due("family bytes " + bytes, Wire.RESPONSE_4 + bytes + "0000" + zeros + "00000010",
                    asked("10.0.0.2", Wire.REQUEST_4 + bytes + "0000" + zeros + "00000010"));
        }
        Probe.due("bytes 0 2: the route of length 0", Wire.RESPONSE_4 + Wire.entry("0.0.0.0/0", 0, 7),
                asked("10.0.0.2", Wire.REQUEST_4 + Wire.entry("0.0.0.0/0", 0, 16)));
        Probe.due("two entries", Wire.RESPONSE_4 + Wire.ALL_4 + Wire.ALL_4, asked("10.0.0.2", Wire.REQUEST_4 + Wire.ALL_4 + Wire.ALL_4));
        for (int metric : new int[] {0, 15, 17, 255}) {
            Probe.due("metric " + metric + " of family 6", Wire.RESPONSE_6 + Wire.entry("::/0", 0, 8),
                    asked("fd00::2", Wire.REQUEST_6 + Wire.entry("::/0", 0, metric)));
        }
        Probe.due("a tag of family 6", Wire.RESPONSE_6 + Wire.entry("::/0", 1, 8),
                asked("fd00::2", Wire.REQUEST_6 + Wire.entry("::/0", 1, 16)));
        Probe.due("a length of family 6", Wire.RESPONSE_6 + Wire.entry("::/1", 0, 16),
                asked("fd00::2", Wire.REQUEST_6 + Wire.entry("::/1", 0, 16)));
        Probe.due("the first bit of family 6", Wire.RESPONSE_6 + Wire.entry("8000::/0", 0, 16),
                asked("fd00::2", Wire.REQUEST_6 + Wire.entry("8000::/0", 0, 16)));
        Probe.due("two entries of family 6", Wire.RESPONSE_6 + Wire.entry("::/0", 0, 8).repeat(2),
                asked("fd00::2", Wire.REQUEST_6 + Wire.ALL_6 + Wire.ALL_6));
    }

    /** The same datagram, each entry with the metric of the route of its prefix, or 16. */
    private static void requestsForSome() {
        String[][] entries = {{four("12.0.0.0", "ff000000", 9), "3"}, {four("12.0.0.0", "ff800000", 9), "16"},
            {four("12.0.0.0", "fe000000", 9), "16"}, {four("12.0.0.1", "ff000000", 9), "16"}, {four("12.0.0.0", "ff000001", 9), "16"},
            {four("0.0.0.0", "00000000", 9), "7"}, {four("10.0.0.0", "ffffff00", 9), "1"},
            {"0003" + four("12.0.0.0", "ff000000", 9).substring(4), "16"}, {"ff02" + four("12.0.0.0", "ff000000", 9).substring(4), "16"}};
        StringBuilder all = new StringBuilder();
        StringBuilder want = new StringBuilder();
        for (String[] one : entries) {
            String answer = one[0].substring(0, 32) + Wire.number(Integer.parseInt(one[1]), 4);
            Probe.due("asked for " + one[0], Wire.RESPONSE_4 + answer, asked("10.0.0.2", Wire.REQUEST_4 + one[0]));
            all.append(one[0]);
            want.append(answer);
        }
        Probe.due("all in one", Wire.RESPONSE_4 + want, asked("10.0.0.2", Wire.REQUEST_4 + all));
        String one = four("12.0.0.0", "ff000000", 0);
        Probe.due("28 of them, whatever M", Wire.RESPONSE_4 + four("12.0.0.0", "ff000000", 3).repeat(28),
                asked("10.0.0.2", Wire.REQUEST_4 + one.repeat(28)));
        Probe.due("25 of family 6", Wire.RESPONSE_6 + Wire.entry("12::/16", 9, 5).repeat(25),
                asked("fd00::2", Wire.REQUEST_6 + Wire.entry("12::/16", 9, 255).repeat(25)));
        Probe.due("a length of 129", Wire.RESPONSE_6 + Wire.entry("12::/129", 9, 16),
                asked("fd00::2", Wire.REQUEST_6 + Wire.entry("12::/129", 9, 1)));
        Probe.due("a bit behind", Wire.RESPONSE_6 + Wire.entry("12::1/16", 9, 16),
                asked("fd00::2", Wire.REQUEST_6 + Wire.entry("12::1/16", 9, 1)));
    }

    /** What lists, splits and redistribution say is nothing to a request for some. */
    private static void requestMetrics() {
        Probe p = new Probe();
        p.setUp("link a 1 mtu 84", "router x", "join x a 10.0.0.1/24 split simple passive", "static x 12.0.0.0/8 3",
                "filter x out 0.0.0.0/0 deny", "redistribute x static off", "default x a 5 only", "summary x a 0.0.0.0/0");
        p.field.ticks(3);
        hear(p, "10.0.0.2", Wire.RESPONSE_4 + Wire.entry("11.0.0.0/8", 0, 4));
        hear(p, "10.0.0.2", Wire.REQUEST_4 + Wire.entry("11.0.0.0/8", 0, 0) + Wire.entry("12.0.0.0/8", 0, 0)
                + Wire.entry("0.0.0.0/0", 0, 0));
        Probe.due("metrics", Wire.RESPONSE_4 + Wire.entry("11.0.0.0/8", 0, 5) + Wire.entry("12.0.0.0/8", 0, 3)
                + Wire.entry("0.0.0.0/0", 0, 16), p.seen(0));
    }
}
