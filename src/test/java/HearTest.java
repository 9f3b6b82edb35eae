/** Promises 17 and 18: what a router learns of responses (counts, routes), byte by byte. */
public final class HearTest {
    public static void main(String[] args) {
        learns();
        ignores();
        gateways();
        fromTheSameSource();
        fromAnotherSource();
        halfOfTheTimeout();
        ownRoutes();
        fullTable();
        listsIn();
        longPrefixes();
        zeroNetwork();
        Probe.finish();
    }

    private static Probe made(String... more) {
        Probe p = new Probe();
        p.setUp("link a 1", "link b 1", "router x", "join x a 10.0.0.1/24 cost 2", "join x a fd00::1/64",
                "join x b 10.0.1.1/24");
        p.setUp(more);
        p.field.ticks(3);
        return p;
    }

    private static void hear(Probe p, String source, String... entries) {
        boolean six = source.contains(":");
        StringBuilder all = new StringBuilder(Wire.address(source) + (six ? Wire.RESPONSE_6 : Wire.RESPONSE_4));
        for (String entry : entries) {
            all.append(entry);
        }
        int link = source.startsWith("10.0.1.") ? 1 : 0;
        Probe.due("put", true, p.put(link, six ? 6 : 4, six ? 521 : 520, 255, all.toString()));
        p.field.ticks(1);
    }

    private static void learns() {
        Probe p = made();
        Probe.due("routes", 3, p.field.routes(0));
        Probe.due("routes of none", -1, p.field.routes(1));
        Probe.due("routes below 0", -1, p.field.routes(-1));
        hear(p, "10.0.0.2", Wire.entry("10.5.0.0/16", 7, 1), Wire.entry("0.0.0.0/0", 0, 13),
                Wire.entry("10.5.0.0/32", 0, 14), Wire.entry("10.6.0.0/16", 0, 16));
        hear(p, "fd00::2", Wire.entry("1::/16", 7, 1), Wire.entry("::/0", 0, 13), Wire.entry("1::1/128", 1, 3));
        Probe.due("metric and cost; nothing with 16", "0.0.0.0/0 15 via 10.0.0.2 a\n10.0.0.0/24 2 direct a\n"
                + "10.0.1.0/24 1 direct b\n10.5.0.0/16 3 via 10.0.0.2 a\n::/0 15 via fd00::2 a\n"
                + "1::/16 3 via fd00::2 a\n1::1/128 5 via fd00::2 a\nfd00::/64 2 direct a\n", p.show(0, 0));
        Probe.due("nothing ignored", 0, p.field.count(0, 4));
        Probe.due("routes", 8, p.field.routes(0));
        Probe.due("changes", 3 + 5, p.field.count(0, 7));
        p.setUp("join x b fd01::1/64");
        p.field.ticks(40);
        Probe.due("tags are told, too", Wire.RESPONSE_6 + Wire.entry("::/0", 0, 15) + Wire.entry("1::/16", 7, 3)
                + Wire.entry("1::1/128", 1, 5) + Wire.entry("fd00::/64", 0, 2), p.seen(1));
    }

    private static void ignored(String source, String entry) {
        Probe p = made();
        int routes = p.field.routes(0);
        hear(p, source, entry);
        Probe.due("ignored " + entry, 1, p.field.count(0, 4));
        Probe.due("not learned " + entry, routes, p.field.routes(0));
    }

    private static void taken(String source, String entry) {
        Probe p = made();
        int routes = p.field.routes(0);
        hear(p, source, entry);
        Probe.due("not ignored " + entry, 0, p.field.count(0, 4));
        Probe.due("learned " + entry, routes + 1, p.field.routes(0));
    }

    private static void ignores() {
        String good = Wire.entry("10.5.0.0/16", 0, 1);
        taken("10.0.0.2", good);
        ignored("10.0.0.2", "0000" + good.substring(4));
        ignored("10.0.0.2", "0003" + good.substring(4));
        ignored("10.0.0.2", "ff02" + good.substring(4));
        ignored("10.0.0.2", good.replace("ffff0000", "ffff00ff"));
        ignored("10.0.0.2", good.replace("ffff0000", "ff000000"));
        ignored("10.0.0.2", good.replace("ffff0000", "00ffff00"));
        for (long metric : new long[] {0, 17, 255, 256, 0x01000001L, 0xffffffffL}) {
            ignored("10.0.0.2", Wire.entry("10.5.0.0/16", 0, metric));
        }
        for (String prefix : new String[] {"127.0.0.0/8", "127.1.0.0/16", "224.0.0.0/3", "224.0.0.0/4", "255.0.0.0/8",
            "240.0.0.0/4"}) {
            ignored("10.0.0.2", Wire.entry(prefix, 0, 1));
        }
        taken("10.0.0.2", Wire.entry("126.0.0.0/7", 0, 1));
        taken("10.0.0.2", Wire.entry("192.0.0.0/2", 0, 1));
        taken("10.0.0.2", Wire.entry("128.0.0.0/8", 0, 1));
        taken("10.0.0.2", Wire.entry("223.0.0.0/8", 0, 1));
        ignored("fd00::2", Wire.entry("1::/129", 0, 1));
        ignored("fd00::2", Wire.entry("1::1/127", 0, 1));
        ignored("fd00::2", Wire.entry("1::/16", 0, 0));
        ignored("fd00::2", Wire.entry("1::/16", 0, 17));
        ignored("fd00::2", Wire.entry("1::/16", 0, 254));
        for (String prefix : new String[] {"fe80::/10", "fe80::/64", "febf::/16", "ff00::/8", "ff02::/16"}) {
            ignored("fd00::2", Wire.entry(prefix, 0, 1));
        }
        for (String prefix : new String[] {"fe80::/9", "fec0::/10", "fe00::/8", "fe00::/7", "::/0"}) {
            taken("fd00::2", Wire.entry(prefix, 0, 1));
        }
        Probe p = made();
        hear(p, "fd00::2", Wire.nextHop("fd00::3"), Wire.nextHop("::"));
        Probe.due("next hops are not counted", 0, p.field.count(0, 4));
    }

    private static void gateways() {
        Probe p = made();
        hear(p, "10.0.0.2", Wire.entry("11.0.0.0/8", 0, "10.0.0.3", 1), Wire.entry("12.0.0.0/8", 0, "10.0.1.3", 1),
                Wire.entry("13.0.0.0/8", 0, "10.0.0.1", 1), Wire.entry("14.0.0.0/8", 0, 1));
        Probe.due("the next hop", "11.0.0.0/8 3 via 10.0.0.3 a", p.way(0, "11.0.0.1"));
        Probe.due("not covered", "12.0.0.0/8 3 via 10.0.0.2 a", p.way(0, "12.0.0.1"));
        Probe.due("its own", "13.0.0.0/8 3 via 10.0.0.2 a", p.way(0, "13.0.0.1"));
        Probe.due("none", "14.0.0.0/8 3 via 10.0.0.2 a", p.way(0, "14.0.0.1"));
        hear(p, "fd00::2", Wire.entry("1::/16", 0, 1), Wire.nextHop("fd00::3"), Wire.entry("2::/16", 0, 1),
                Wire.entry("3::/16", 0, 1), Wire.nextHop("::"), Wire.entry("4::/16", 0, 1), Wire.nextHop("fd00::4"),
                Wire.entry("5::/16", 0, 1), Wire.nextHop("fd01::4"), Wire.entry("6::/16", 0, 1), Wire.nextHop("fd00::5"),
                Wire.nextHop("fd00::1"), Wire.entry("7::/16", 0, 1));
        String[] via = {"2", "3", "3", "2", "4", "2", "2"};
        for (int i = 1; i <= 7; i++) {
            Probe.due("gateway " + i, i + "::/16 3 via fd00::" + via[i - 1] + " a", p.way(0, i + "::1"));
        }
    }

    private static void fromTheSameSource() {
        Probe p = made("timers x 1000 100 50");
        String at = "10.5.0.0/16 ";
        hear(p, "10.0.0.2", Wire.entry("10.5.0.0/16", 1, 3));
        int changes = p.field.count(0, 7);
        p.field.ticks(9);
        hear(p, "10.0.0.2", Wire.entry("10.5.0.0/16", 2, 3));
        Probe.due("heard again", true, p.show(0, 3).contains(at + "100\n"));
        Probe.due("no change", changes, p.field.count(0, 7));
        hear(p, "10.0.0.2", Wire.entry("10.5.0.0/16", 2, 5));
        Probe.due("a worse metric from it", at + "7 via 10.0.0.2 a", p.way(0, "10.5.0.1"));
        Probe.due("a change", changes + 1, p.field.count(0, 7));
        hear(p, "10.0.0.2", Wire.entry("10.5.0.0/16", 2, "10.0.0.4", 5));
        Probe.due("another gateway", at + "7 via 10.0.0.4 a", p.way(0, "10.5.0.1"));
        Probe.due("is a change", changes + 2, p.field.count(0, 7));
        p.field.ticks(5);
        hear(p, "10.0.0.2", Wire.entry("10.5.0.0/16", 2, 16));
        Probe.due("with 16 it dies", true, p.show(0, 0).contains(at + "16 via 10.0.0.2 a\n"));
        Probe.due("one change", changes + 3, p.field.count(0, 7));
        Probe.due("garbage", true, p.show(0, 3).contains(at + "50 changed\n"));
        p.field.ticks(9);
        hear(p, "10.0.0.2", Wire.entry("10.5.0.0/16", 2, "10.0.0.4", 16));
        Probe.due("nothing if it is dying", true, p.show(0, 3).contains(at + "40\n"));
        Probe.due("not even the gateway", true, p.show(0, 0).contains(at + "16 via 10.0.0.2 a\n"));
        hear(p, "10.0.0.2", Wire.entry("10.5.0.0/16", 2, 13));
        Probe.due("it comes back", at + "15 via 10.0.0.2 a", p.way(0, "10.5.0.1"));
        Probe.due("with a new timeout", true, p.show(0, 3).contains(at + "100 changed\n"));
        hear(p, "10.0.0.2", Wire.entry("10.5.0.0/16", 2, 14));
        Probe.due("14 and the cost are 16", true, p.show(0, 0).contains(at + "16 via"));
        Probe.due("changes", changes + 5, p.field.count(0, 7));
    }

    private static void fromAnotherSource() {
        Probe p = made("timers x 1000 100 50");
        hear(p, "10.0.0.2", Wire.entry("10.5.0.0/16", 1, 3));
        p.field.ticks(10);
        hear(p, "10.0.0.3", Wire.entry("10.5.0.0/16", 1, 4));
        Probe.due("worse", "10.5.0.0/16 5 via 10.0.0.2 a", p.way(0, "10.5.0.1"));
        hear(p, "10.0.0.3", Wire.entry("10.5.0.0/16", 1, 3));
        Probe.due("the same", "10.5.0.0/16 5 via 10.0.0.2 a", p.way(0, "10.5.0.1"));
        Probe.due("which is no hearing of it", true, p.show(0, 3).contains("10.5.0.0/16 88\n"));
        hear(p, "10.0.0.3", Wire.entry("10.5.0.0/16", 1, 16));
        Probe.due("nor is 16", "10.5.0.0/16 5 via 10.0.0.2 a", p.way(0, "10.5.0.1"));
        hear(p, "10.0.1.2", Wire.entry("10.5.0.0/16", 1, 3));
        Probe.due("less", "10.5.0.0/16 4 via 10.0.1.2 b", p.way(0, "10.5.0.1"));
        hear(p, "10.0.0.2", Wire.entry("10.5.0.0/16", 1, 16));
        Probe.due("the first one says nothing now", "10.5.0.0/16 4 via 10.0.1.2 b", p.way(0, "10.5.0.1"));
        hear(p, "10.0.1.2", Wire.entry("10.5.0.0/16", 1, 16));
        hear(p, "10.0.0.3", Wire.entry("10.5.0.0/16", 1, 13));
        Probe.due("anything is less than 16", "10.5.0.0/16 15 via 10.0.0.3 a", p.way(0, "10.5.0.1"));
        hear(p, "10.0.0.2", Wire.entry("11.0.0.0/8", 0, "10.0.0.9", 1));
        hear(p, "10.0.0.3", Wire.entry("11.0.0.0/8", 0, "10.0.0.8", 9));
        Probe.due("it was heard from the source, not the gateway", "11.0.0.0/8 3 via 10.0.0.9 a", p.way(0, "11.0.0.1"));
        hear(p, "10.0.0.9", Wire.entry("11.0.0.0/8", 0, 9));
        Probe.due("nor from its gateway", "11.0.0.0/8 3 via 10.0.0.9 a", p.way(0, "11.0.0.1"));
    }

    private static void halfOfTheTimeout() {
        Probe p = made("timers x 1000 101 50");
        hear(p, "10.0.0.2", Wire.entry("10.5.0.0/16", 1, 3));
        p.setUp("timers x 1000 10 50");
        p.field.ticks(49);
        hear(p, "10.0.0.3", Wire.entry("10.5.0.0/16", 1, 3));
        Probe.due("50 of 101 have passed", "10.5.0.0/16 5 via 10.0.0.2 a", p.way(0, "10.5.0.1"));
        int changes = p.field.count(0, 7);
        hear(p, "10.0.0.3", Wire.entry("10.5.0.0/16", 1, "10.0.0.2", 3));
        Probe.due("51 have: it is heard from the other", true, p.show(0, 3).contains("10.5.0.0/16 10\n"));
        Probe.due("the same way is no change", changes, p.field.count(0, 7));
        p.field.ticks(4);
        hear(p, "10.0.0.2", Wire.entry("10.5.0.0/16", 1, 3));
        Probe.due("5 of 10 have passed", true, p.show(0, 3).contains("10.5.0.0/16 10\n"));
        hear(p, "10.0.0.3", Wire.entry("10.5.0.0/16", 1, 16));
        Probe.due("that one is nobody now", "10.5.0.0/16 5 via 10.0.0.2 a", p.way(0, "10.5.0.1"));
        p.field.ticks(5);
        hear(p, "10.0.0.4", Wire.entry("10.5.0.0/16", 1, 3));
        Probe.due("another gateway is a change", changes + 1, p.field.count(0, 7));
    }

    private static void ownRoutes() {
        Probe p = made("static x 10.5.0.0/16 9", "timers x 1000 100 50");
        hear(p, "10.0.0.2", Wire.entry("10.5.0.0/16", 1, 1), Wire.entry("10.0.1.0/24", 1, 1));
        Probe.due("stay", "10.5.0.0/16 9 static", p.way(0, "10.5.0.1"));
        Probe.due("connected", "10.0.1.0/24 1 direct b", p.way(0, "10.0.1.1"));
        Probe.due("nothing ignored", 0, p.field.count(0, 4));
        p.setUp("nostatic x 10.5.0.0/16");
        Probe.due("dying without a way", true, p.show(0, 0).contains("10.5.0.0/16 16 via 0.0.0.0 -\n"));
        hear(p, "10.0.0.2", Wire.entry("10.5.0.0/16", 1, 1));
        Probe.due("learned now", "10.5.0.0/16 3 via 10.0.0.2 a", p.way(0, "10.5.0.1"));
        p.setUp("static x 10.5.0.0/16 9");
        Probe.due("static is before learned", "10.5.0.0/16 9 static", p.way(0, "10.5.0.1"));
        p.setUp("nostatic x 10.5.0.0/16");
        Probe.due("without the way it had", true, p.show(0, 0).contains("10.5.0.0/16 16 via 0.0.0.0 -\n"));
        p.setUp("static x 10.0.1.0/24 1");
        Probe.due("connected is before static", "10.0.1.0/24 1 direct b", p.way(0, "10.0.1.1"));
        p.setUp("link c 1", "join x c 10.0.1.9/24 cost 5");
        Probe.due("the interface that came first", "10.0.1.0/24 1 direct b", p.way(0, "10.0.1.1"));
        p.field.link(1, false);
        Probe.due("then the other", "10.0.1.0/24 5 direct c", p.way(0, "10.0.1.1"));
        p.field.link(2, false);
        Probe.due("then the static one", "10.0.1.0/24 1 static", p.way(0, "10.0.1.1"));
        p.field.link(1, true);
        Probe.due("and the first again", "10.0.1.0/24 1 direct b", p.way(0, "10.0.1.1"));
    }

    private static void fullTable() {
        Probe p = made();
        StringBuilder[] parts = {new StringBuilder(), new StringBuilder(), new StringBuilder()};
        for (int i = 0; i < 59; i++) {
            parts[i / 20].append(Wire.entry("11." + i + ".0.0/16", 0, 1));
        }
        for (StringBuilder part : parts) {
            hear(p, "10.0.0.2", part.toString());
        }
        Probe.due("60 of family 4 and one of family 6", 61, p.field.routes(0));
        Probe.due("one is ignored", 1, p.field.count(0, 4));
        hear(p, "10.0.0.2", Wire.entry("12.0.0.0/16", 0, 16), Wire.entry("11.0.0.0/16", 0, 2));
        Probe.due("with 16 nothing, nor when it is there", 1, p.field.count(0, 4));
        hear(p, "fd00::2", Wire.entry("1::/16", 0, 1));
        Probe.due("family 6 has room", 62, p.field.routes(0));
        p.setUp("static x 13.0.0.0/8 1");
        Probe.due("what is its own comes", 63, p.field.routes(0));
    }

    /** Prefixes of more than 64 bits, and of a single one. */
    private static void longPrefixes() {
        Probe p = made("filter x in 1:2:3:4:5::/80 deny", "filter x in 1:2:3:4:6::/79 deny", "filter x in 1:2:3:4:0:8000::/81 deny",
                "filter x in 9:9:9:9:9:9:9:9/128 deny", "filter x in 128.0.0.0/1 deny");
        hear(p, "fd00::2", Wire.entry("1:2:3:4:5::/80", 0, 1), Wire.entry("1:2:3:4:5:1::/96", 0, 1),
                Wire.entry("1:2:3:4:7::/80", 0, 1), Wire.entry("1:2:3:4:0:8000::/81", 0, 1),
                Wire.entry("9:9:9:9:9:9:9:9/128", 0, 1));
        Probe.due("all are denied", 5, p.field.count(0, 4));
        hear(p, "fd00::2", Wire.entry("1:2:3:4:4::/80", 0, 1), Wire.entry("1:2:3:4:8::/80", 0, 1),
                Wire.entry("1:2:3:4::/81", 0, 1), Wire.entry("1:2:3:4::/64", 0, 1), Wire.entry("1:2:3:5:5::/80", 0, 1),
                Wire.entry("9:9:9:9:9:9:9:8/128", 0, 1), Wire.entry("9:9:9:8:9:9:9:9/128", 0, 1));
        Probe.due("none is", 5, p.field.count(0, 4));
        Probe.due("routes", 3 + 7, p.field.routes(0));
        Probe.due("way in 81 bits", "1:2:3:4::/81 3 via fd00::2 a", p.way(0, "1:2:3:4:0:7fff:ffff:ffff"));
        Probe.due("not in them", "1:2:3:4::/64 3 via fd00::2 a", p.way(0, "1:2:3:4:0:8000::"));
        Probe.due("way in 128 bits", "9:9:9:9:9:9:9:8/128 3 via fd00::2 a", p.way(0, "9:9:9:9:9:9:9:8"));
        Probe.due("one bit off", "NONE", p.way(0, "9:9:9:9:9:9:9:9"));
        Probe.due("one of the first off", "NONE", p.way(0, "9:9:9:0:9:9:9:8"));
        hear(p, "10.0.0.2", Wire.entry("128.0.0.0/8", 0, 1), Wire.entry("127.0.0.0/7", 0, 1), Wire.entry("64.0.0.0/8", 0, 1));
        Probe.due("one bit alone", 7, p.field.count(0, 4));
        Probe.due("the other half", "64.0.0.0/8 3 via 10.0.0.2 a", p.way(0, "64.0.0.1"));
        p.setUp("join x b fd01:1:1:1:1::1/80");
        p.put(1, 6, 521, 255, Wire.address("fd01:1:1:1:2::2") + Wire.RESPONSE_6 + Wire.entry("3::/16", 0, 1));
        p.put(1, 6, 521, 255, Wire.address("fd01:1:1:1:1::2") + Wire.RESPONSE_6 + Wire.entry("4::/16", 0, 1));
        p.field.ticks(1);
        Probe.due("a network of 80 bits", 1, p.field.count(0, 1));
        Probe.due("and a source in it", "4::/16 2 via fd01:1:1:1:1::2 b", p.way(0, "4::"));
    }

    /** A next hop of 0 is none, also where the network covers it. */
    private static void zeroNetwork() {
        Probe p = new Probe();
        p.setUp("link a 1", "router x", "join x a 0.0.0.1/24", "join x a ::1/64");
        p.field.ticks(3);
        p.put(0, 4, 520, 255, Wire.address("0.0.0.9") + Wire.RESPONSE_4 + Wire.entry("10.0.0.0/8", 0, 1));
        p.put(0, 6, 521, 255, Wire.address("::9") + Wire.RESPONSE_6 + Wire.nextHop("::8") + Wire.nextHop("::")
                + Wire.entry("1::/16", 0, 1));
        p.field.ticks(1);
        Probe.due("family 4", "10.0.0.0/8 2 via 0.0.0.9 a", p.way(0, "10.0.0.1"));
        Probe.due("family 6", "1::/16 2 via ::9 a", p.way(0, "1::1"));
    }

    private static void listsIn() {
        Probe p = made("filter x in 11.1.0.0/16 permit", "filter x in 11.0.0.0/8 deny", "list n deny 12.0.0.0/8",
                "list n deny 13.0.0.0/8 ge 16", "list n deny 14.0.0.0/8 le 16", "list n deny 15.0.0.0/8 ge 12 le 16",
                "list n permit 0.0.0.0/0 le 32", "list m permit 10.0.0.0/7 ge 16", "distribute x in a n",
                "distribute x in b m", "list o permit 16.0.0.0/8", "offset x in b o 1", "offset x in a o 3",
                "offset x in * n 2", "filter x out 0.0.0.0/0 deny", "list none deny ::/0", "distribute x out * none");
        hear(p, "10.0.0.2", Wire.entry("11.1.0.0/16", 0, 1), Wire.entry("11.1.1.0/24", 0, 1),
                Wire.entry("11.2.0.0/16", 0, 1), Wire.entry("11.0.0.0/8", 0, 1), Wire.entry("10.0.0.0/7", 0, 1),
                Wire.entry("12.0.0.0/8", 0, 1), Wire.entry("12.0.0.0/9", 0, 1), Wire.entry("13.0.0.0/15", 0, 1),
                Wire.entry("13.0.0.0/16", 0, 1), Wire.entry("14.0.0.0/16", 0, 1), Wire.entry("14.0.0.0/17", 0, 1),
                Wire.entry("15.0.0.0/8", 0, 1), Wire.entry("15.0.0.0/12", 0, 1), Wire.entry("16.0.0.0/8", 0, 1),
                Wire.entry("17.0.0.0/8", 0, 12));
        Probe.due("filters, lists and offsets in of a", "10.0.0.0/7 5 via 10.0.0.2 a\n10.0.0.0/24 2 direct a\n"
                + "10.0.1.0/24 1 direct b\n11.1.0.0/16 5 via 10.0.0.2 a\n11.1.1.0/24 5 via 10.0.0.2 a\n"
                + "12.0.0.0/9 5 via 10.0.0.2 a\n13.0.0.0/15 5 via 10.0.0.2 a\n14.0.0.0/17 5 via 10.0.0.2 a\n"
                + "15.0.0.0/8 5 via 10.0.0.2 a\n16.0.0.0/8 6 via 10.0.0.2 a\nfd00::/64 2 direct a\n", p.show(0, 0));
        Probe.due("ignored", 6, p.field.count(0, 4));
        hear(p, "fd00::2", Wire.entry("1::/16", 0, 1));
        Probe.due("none fits: deny", 7, p.field.count(0, 4));
        hear(p, "10.0.1.2", Wire.entry("11.1.2.0/24", 0, 1), Wire.entry("10.0.0.0/15", 0, 1));
        Probe.due("the list of b", "11.1.2.0/24 4 via 10.0.1.2 b", p.way(0, "11.1.2.1"));
        Probe.due("its length is not from ge on", 8, p.field.count(0, 4));
    }
}
