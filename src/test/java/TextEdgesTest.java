/** Promises 11 to 14 at their bounds: the texts of show, config and way, and the sums of oracle. */
public final class TextEdgesTest {
    public static void main(String[] args) {
        sixTexts();
        fourTexts();
        routesShown();
        interfacesShown();
        countsShown();
        timesShown();
        configFirst();
        configLists();
        configJoins();
        configRedistributes();
        configDefaults();
        ways();
        wayTexts();
        oracleSums();
        oracleChain();
        oraclePrefixes();
        oracleNone();
        Probe.finish();
    }

    /** :: for the longest row of two or more parts 0 (of several the first), in small letters. */
    private static void sixTexts() {
        String[][] texts = {{"0:0:0:0:0:0:0:0", "::"}, {"::1", "::1"}, {"1:0:0:0:0:0:0:0", "1::"}, {"0:0:1:1:1:1:1:1", "::1:1:1:1:1:1"},
            {"0:1:1:1:1:1:1:1", "0:1:1:1:1:1:1:1"}, {"1:1:1:1:1:1:1:0", "1:1:1:1:1:1:1:0"}, {"1:1:1:1:1:1:0:0", "1:1:1:1:1:1::"},
            {"1:1:1:0:1:1:1:1", "1:1:1:0:1:1:1:1"}, {"1:1:1:0:0:1:1:1", "1:1:1::1:1:1"}, {"0:0:1:0:0:1:0:0", "::1:0:0:1:0:0"},
            {"1:0:0:1:0:0:0:1", "1:0:0:1::1"}, {"1:0:0:0:1:0:0:1", "1::1:0:0:1"}, {"1:0:0:1:0:0:1:1", "1::1:0:0:1:1"},
            {"0:1:0:0:1:0:0:0", "0:1:0:0:1::"}, {"0:0:0:1:0:0:0:1", "::1:0:0:0:1"}, {"0:1:0:1:0:1:0:1", "0:1:0:1:0:1:0:1"},
            {"00AB:0Cd:000e:F:10:100:1000:FFFF", "ab:cd:e:f:10:100:1000:ffff"}, {"ABCD:EF01::", "abcd:ef01::"},
            {"1:2:3:4:5:6:7::", "1:2:3:4:5:6:7:0"}, {"::2:3:4:5:6:7:8", "0:2:3:4:5:6:7:8"}, {"0::0", "::"}, {"1::0:0:1", "1::1"},
            {"0:0::1:0:0:0", "::1:0:0:0"}};
        for (String[] one : texts) {
            Probe p = new Probe();
            p.setUp("router x", "static x " + one[0] + "/128 1");
            Probe.due("text of " + one[0], one[1] + "/128 1 static\n", p.show(0, 0));
        }
    }

    private static void fourTexts() {
        for (String text : new String[] {"0.0.0.0", "255.255.255.255", "1.20.100.9", "10.0.0.99", "199.200.255.0"}) {
            Probe p = new Probe();
            p.setUp("router x", "static x " + text + "/32 1");
            Probe.due("text of " + text, text + "/32 1 static\n", p.show(0, 0));
        }
    }

    private static Probe made() {
        Probe p = new Probe();
        p.setUp("link a 1", "link bcdefghijklm 1", "router x", "join x a 10.0.0.1/24", "join x bcdefghijklm fd00::1/64 cost 15",
                "static x 12.0.0.0/8 15", "static x 0.0.0.0/0 1", "timers x 1000 1000 1000");
        p.field.ticks(3);
        p.put(0, 4, 520, 255, Wire.address("10.0.0.2") + Wire.RESPONSE_4 + Wire.entry("11.0.0.0/8", 0, 14));
        p.field.ticks(1);
        return p;
    }

    /** Direct or static or via and the gateway, and the link's name; without an interface -. */
    private static void routesShown() {
        Probe p = made();
        Probe.due("all sorts", "0.0.0.0/0 1 static\n10.0.0.0/24 1 direct a\n11.0.0.0/8 15 via 10.0.0.2 a\n12.0.0.0/8 15 static\n"
                + "fd00::/64 15 direct bcdefghijklm\n", p.show(0, 0));
        p.field.link(0, false);
        p.field.link(1, false);
        p.setUp("nostatic x 12.0.0.0/8");
        Probe.due("dying ones", "0.0.0.0/0 1 static\n10.0.0.0/24 16 via 0.0.0.0 -\n11.0.0.0/8 16 via 10.0.0.2 a\n"
                + "12.0.0.0/8 16 via 0.0.0.0 -\nfd00::/64 16 via :: -\n", p.show(0, 0));
        Probe.due("routes counts them", 5, p.field.routes(0));
        p.field.run(0, false);
        Probe.due("none of one that stands still", "", p.show(0, 0));
        Probe.due("no routes", 0, p.field.routes(0));
    }

    private static void interfacesShown() {
        Probe p = new Probe();
        p.setUp("link a 1", "link b 1", "router x");
        Probe.due("none", "", p.show(0, 1));
        p.setUp("join x b 10.0.0.1/0");
        Probe.due("as at first", "b up cost 1 poison open 10.0.0.1/0\n", p.show(0, 1));
        p.setUp("join x b ::1/128 cost 15 split off passive", "join x a ::1/0 cost 1 split simple password w");
        Probe.due("two of them", "b up cost 15 off open passive 10.0.0.1/0 ::1/128\na up cost 1 simple password ::1/0\n", p.show(0, 1));
        p.setUp("key x a 1 md5 w 9 9", "join x a 255.255.255.255/32");
        p.field.link(0, false);
        Probe.due("down, with a chain", "b up cost 15 off open passive 10.0.0.1/0 ::1/128\n"
                + "a down cost 1 simple chain 255.255.255.255/32 ::1/0\n", p.show(0, 1));
        p.setUp("nokey x a");
        Probe.due("open", true, p.show(0, 1).endsWith("a down cost 1 simple open 255.255.255.255/32 ::1/0\n"));
        Probe q = new Probe();
        q.setUp("link a 1", "router x", "join x a 10.0.0.1/24 passive cost 7 split simple", "join x a ::1/64");
        Probe.due("what is not told again stays", "a up cost 7 simple open passive 10.0.0.1/24 ::1/64\n", q.show(0, 1));
    }

    private static void countsShown() {
        Probe p = new Probe();
        p.setUp("router x");
        Probe.due("all 0", "0 0\n1 0\n2 0\n3 0\n4 0\n5 0\n6 0\n7 0\n8 0\n9 0\n10 0\n", p.show(0, 2));
        p.setUp("link a 1", "join x a 10.0.0.1/24");
        for (int i = 0; i < 12; i++) {
            p.put(0, 4, 520, 255, Wire.address("10.0.0.1"));
        }
        p.field.ticks(1);
        Probe.due("more digits", "0 12\n1 12\n2 0\n3 0\n4 0\n5 1\n6 1\n7 1\n8 0\n9 0\n10 0\n", p.show(0, 2));
    }

    /** How many ticks are left (- of others), then changed if it is. */
    private static void timesShown() {
        Probe p = made();
        Probe.due("1000 are left", "0.0.0.0/0 -\n10.0.0.0/24 -\n11.0.0.0/8 1000 changed\n12.0.0.0/8 -\nfd00::/64 -\n", p.show(0, 3));
        p.field.ticks(999);
        Probe.due("one is left", "0.0.0.0/0 -\n10.0.0.0/24 -\n11.0.0.0/8 1\n12.0.0.0/8 -\nfd00::/64 -\n", p.show(0, 3));
        p.setUp("timers x 1000 1 1");
        p.field.ticks(1);
        Probe.due("one is left to garbage", "0.0.0.0/0 -\n10.0.0.0/24 -\n11.0.0.0/8 1 changed\n12.0.0.0/8 -\nfd00::/64 -\n", p.show(0, 3));
        p.field.ticks(1);
        Probe.due("gone", "0.0.0.0/0 -\n10.0.0.0/24 -\n12.0.0.0/8 -\nfd00::/64 -\n", p.show(0, 3));
    }

    /** Each link (its jitter and mtu told); router, timers always. */
    private static void configFirst() {
        Probe p = new Probe();
        Probe.due("nothing", "", p.config());
        p.setUp("router b", "link b 1", "link a 5 mtu 84 jitter 4", "router a", "timers a 1 1000 1");
        String text = "link b 1 jitter 0 mtu 576\nlink a 5 jitter 4 mtu 84\nrouter b\ntimers b 30 180 120\nrouter a\ntimers a 1 1000 1\n";
        Probe.due("links ahead of routers", text, p.config());
        Probe.due("how many bytes", text.length(), p.field.config());
        p.field.link(0, false);
        p.field.run(0, false);
        p.field.lose(0, 9);
        p.field.ticks(99);
        Probe.due("all up and running", text, p.config());
    }

    /** Each list's entries: options as told, ge ahead of le. */
    private static void configLists() {
        Probe p = new Probe();
        p.setUp("list b permit 10.0.0.0/8 le 32 ge 8", "list a deny ::/0", "list b deny 10.0.0.0/8 ge 8", "list a permit FD00::/16 le 128",
                "list b permit 10.0.0.0/8 le 8", "list b deny 0.0.0.0/0 ge 0 le 0", "list a permit 0.0.0.0/0 ge 000032");
        Probe.due("lists", "list b permit 10.0.0.0/8 ge 8 le 32\nlist b deny 10.0.0.0/8 ge 8\nlist b permit 10.0.0.0/8 le 8\n"
                + "list b deny 0.0.0.0/0 ge 0 le 0\nlist a deny ::/0\nlist a permit fd00::/16 le 128\n"
                + "list a permit 0.0.0.0/0 ge 32\n", p.config());
    }

    /** Joins: family 4 first; the first one with cost, split, then password and passive if they are; then keys. */
    private static void configJoins() {
        Probe p = new Probe();
        p.setUp("link a 1", "link b 1", "link c 1", "router x", "join x b ::1/0", "join x a ::1/64 passive password p",
                "join x a 10.0.0.1/24 cost 15", "join x c 1.1.1.1/32 sha 0 s md5 255 m", "key x c 9 md5 k 5 6");
        Probe.due("joins", "link a 1 jitter 0 mtu 576\nlink b 1 jitter 0 mtu 576\nlink c 1 jitter 0 mtu 576\nrouter x\n"
                + "timers x 30 180 120\njoin x b ::1/0 cost 1 split poison\n"
                + "join x a 10.0.0.1/24 cost 15 split poison password p passive\njoin x a ::1/64\n"
                + "join x c 1.1.1.1/32 cost 1 split poison\nkey x c 0 sha s 0 99999\nkey x c 255 md5 m 0 99999\n"
                + "key x c 9 md5 k 5 6\n", p.config());
        p.setUp("key x a 3 sha z 0 0", "nokey x c", "join x b 0.0.0.0/0 split off passive");
        Probe.due("later", "link a 1 jitter 0 mtu 576\nlink b 1 jitter 0 mtu 576\nlink c 1 jitter 0 mtu 576\nrouter x\n"
                + "timers x 30 180 120\njoin x b 0.0.0.0/0 cost 1 split off passive\njoin x b ::1/0\n"
                + "join x a 10.0.0.1/24 cost 15 split poison passive\njoin x a ::1/64\nkey x a 3 sha z 0 0\n"
                + "join x c 1.1.1.1/32 cost 1 split poison\n", p.config());
    }

    private static void redistributed(String line, String want) {
        for (String kind : new String[] {"connected", "static"}) {
            Probe p = new Probe();
            p.setUp("router x", "redistribute x " + kind + " 9 tag 9", "redistribute x " + kind + " " + line);
            Probe.due("redistribute " + line, "router x\ntimers x 30 180 120\n"
                    + (want.isEmpty() ? "" : "redistribute x " + kind + " " + want + "\n"), p.config());
        }
    }

    /** Where they are told otherwise than at first; a tag if it was told with it, also own and off so. */
    private static void configRedistributes() {
        redistributed("own", "");
        redistributed("own tag 0", "own tag 0");
        redistributed("own tag 65535", "own tag 65535");
        redistributed("off", "off");
        redistributed("off tag 0", "off tag 0");
        redistributed("1", "1");
        redistributed("15", "15");
        redistributed("15 tag 0", "15 tag 0");
        redistributed("000001 tag 000007", "1 tag 7");
    }

    private static void defaulted(String line, String want) {
        Probe p = new Probe();
        p.setUp("link a 1", "router x", "join x a ::1/0", "default x a 9 only", "default x a " + line);
        Probe.due("default " + line, "link a 1 jitter 0 mtu 576\nrouter x\ntimers x 30 180 120\n"
                + "join x a ::1/0 cost 1 split poison\n" + (want.isEmpty() ? "" : "default x a " + want + "\n"), p.config());
    }

    private static void configDefaults() {
        defaulted("off", "");
        defaulted("1", "1");
        defaulted("15", "15");
        defaulted("1 only", "1 only");
        defaulted("15 only", "15 only");
    }

    /** The longest prefix that covers it and whose route isn't dying. */
    private static void ways() {
        Probe p = new Probe();
        p.setUp("router x", "static x 0.0.0.0/0 1", "static x 128.0.0.0/1 2", "static x 200.0.0.0/8 3", "static x 200.0.0.0/31 4",
                "static x 200.0.0.1/32 5", "static x ::/0 6", "static x ::/127 7", "static x ::1/128 8", "static x 1::/64 9",
                "static x 1::/65 10");
        String[][] want = {{"0.0.0.0", "0.0.0.0/0 1"}, {"127.255.255.255", "0.0.0.0/0 1"}, {"128.0.0.0", "128.0.0.0/1 2"},
            {"199.255.255.255", "128.0.0.0/1 2"}, {"200.0.0.2", "200.0.0.0/8 3"}, {"200.255.255.255", "200.0.0.0/8 3"},
            {"201.0.0.0", "128.0.0.0/1 2"}, {"200.0.0.0", "200.0.0.0/31 4"}, {"200.0.0.1", "200.0.0.1/32 5"}, {"::2", "::/0 6"},
            {"::", "::/127 7"}, {"::1", "::1/128 8"}, {"1::7fff:ffff:ffff:ffff", "1::/65 10"}, {"1::8000:0:0:0", "1::/64 9"},
            {"1:0:0:1::", "::/0 6"}};
        for (String[] one : want) {
            Probe.due("way to " + one[0], one[1] + " static", p.way(0, one[0]));
        }
        p.setUp("nostatic x 200.0.0.1/32", "nostatic x ::/0");
        Probe.due("the longest is dying", "200.0.0.0/31 4 static", p.way(0, "200.0.0.1"));
        Probe.due("all are dying", "NONE", p.way(0, "::2"));
        p.field.run(0, false);
        Probe.due("it stands still", "NONE", p.way(0, "200.0.0.0"));
    }

    /** The tape is the text of an address, and of nothing else. */
    private static void wayTexts() {
        String[] wrong = {"", " ", "1.2.3", "1.2.3.4 ", " 1.2.3.4", "1.2.3.4\n", "1.2.3.4/32", "1.2.3.04", "1.2.3.256", "1.2.3.4.5",
            "::1 ", "::1/128", "::g", "1:2:3:4:5:6:7", "::00001", "1.2.3.4\0", "x"};
        Probe p = new Probe();
        p.setUp("router x", "static x 0.0.0.0/0 1", "static x ::/0 1");
        for (String one : wrong) {
            Probe.due("way to " + one, "NONE", p.way(0, one));
            Probe.due("oracle of " + one, -1, p.oracle(0, one));
        }
        Probe.due("way to 1.2.3.4", "0.0.0.0/0 1 static", p.way(0, "1.2.3.4"));
        Probe.due("way to ::FFFF", "::/0 1 static", p.way(0, "::FFFF"));
        Probe.due("oracle of ::FFFF", 1, p.oracle(0, "::FFFF"));
    }

    /** The least sum; its own metric, a connected one's cost first. */
    private static void oracleSums() {
        Probe p = new Probe();
        p.setUp("link a 1", "link b 1", "link c 1", "router x", "router y", "router z", "join x a 10.0.0.1/24 cost 9",
                "join x b 10.0.1.1/24 cost 2", "join y a 10.0.0.2/24 cost 1", "join y c 10.0.2.2/24 cost 4",
                "join z b 10.0.1.3/24 cost 1", "join z c 10.0.2.3/24 cost 5", "static y 11.0.0.0/8 1", "static y 10.0.0.0/24 15",
                "static z 11.0.0.0/8 7");
        Probe.due("x's own cost, not y's", 9, p.oracle(0, "10.0.0.9"));
        Probe.due("y's cost before its static one", 1, p.oracle(1, "10.0.0.9"));
        Probe.due("the least of two ways: 2 + 7, 9 + 1", 9, p.oracle(0, "11.0.0.1"));
        p.setUp("static z 11.0.0.0/8 9");
        Probe.due("the least of two ways: 2 + 9, 9 + 1", 10, p.oracle(0, "11.0.0.1"));
        Probe.due("its own, though less is near", 9, p.oracle(2, "11.0.0.1"));
        p.field.link(0, false);
        Probe.due("a is down: by b alone", 11, p.oracle(0, "11.0.0.1"));
        p.field.run(2, false);
        Probe.due("z stands still: no way", 16, p.oracle(0, "11.0.0.1"));
        Probe.due("a's network: y's static one is left", 16, p.oracle(0, "10.0.0.9"));
        Probe.due("for y", 15, p.oracle(1, "10.0.0.9"));
        p.field.link(0, true);
        Probe.due("a is up", 10, p.oracle(0, "11.0.0.1"));
    }

    /** 16 when that is more than 15: six routers in a row. */
    private static void oracleChain() {
        for (int metric = 1; metric <= 15; metric++) {
            Probe p = new Probe();
            p.setUpMany(5, "link l%d 1");
            p.setUpMany(6, "router r%d");
            p.setUp("static r5 11.0.0.0/8 " + metric, "static r5 11::/16 " + metric);
            for (int i = 0; i < 5; i++) {
                p.setUp("join r" + i + " l" + i + " 10.0." + i + ".1/24 cost 2", "join r" + (i + 1) + " l" + i + " 10.0." + i + ".2/24 cost 15");
                if (i != 3) {
                    p.setUp("join r" + i + " l" + i + " fd00:" + i + "::1/64", "join r" + (i + 1) + " l" + i + " fd00:" + i + "::2/64");
                } else {
                    p.setUp("join r3 l3 fd00:3::1/64");
                }
            }
            for (int r = 0; r < 6; r++) {
                int sum = metric + 2 * (5 - r);
                Probe.due("router " + r + " with " + metric, sum > 15 ? 16 : sum, p.oracle(r, "11.0.0.1"));
            }
            Probe.due("family 6 has a gap at l3", 16, p.oracle(3, "11::"));
            Probe.due("behind it none", metric + 2 > 15 ? 16 : metric + 2, p.oracle(4, "11::"));
        }
    }

    /** Of all prefixes that cover it the longest, whoever has it. */
    private static void oraclePrefixes() {
        Probe p = new Probe();
        p.setUp("link a 1", "router x", "router y", "join x a 10.0.0.1/24", "join y a 10.0.0.2/25", "static x 10.0.0.0/23 3",
                "static y 10.0.0.128/26 4", "static y 0.0.0.0/0 5", "static x 10.0.0.255/32 6");
        int[][] want = {{1, 2, 1}, {127, 2, 1}, {129, 5, 4}, {191, 5, 4}, {192, 1, 2}, {254, 1, 2}, {255, 6, 7}};
        for (int[] one : want) {
            Probe.due("x to " + one[0], one[1], p.oracle(0, "10.0.0." + one[0]));
            Probe.due("y to " + one[0], one[2], p.oracle(1, "10.0.0." + one[0]));
        }
        Probe.due("x to 10.0.1.0", 3, p.oracle(0, "10.0.1.0"));
        Probe.due("y to 10.0.1.0", 4, p.oracle(1, "10.0.1.0"));
        Probe.due("x to 10.0.2.0", 6, p.oracle(0, "10.0.2.0"));
        p.field.link(0, false);
        Probe.due("a is down: the static one", 3, p.oracle(0, "10.0.0.192"));
        Probe.due("of x, to which y has no way", 16, p.oracle(1, "10.0.0.192"));
        p.field.run(0, false);
        Probe.due("x stands still: length 0", 5, p.oracle(1, "10.0.0.192"));
        Probe.due("and is not asked", -1, p.oracle(0, "10.0.0.192"));
    }

    private static void oracleNone() {
        Probe p = new Probe();
        p.setUp("link a 1", "router x", "join x a 10.0.0.1/24", "join x a fd00::1/64", "static x 11.0.0.0/8 15");
        Probe.due("just inside", 1, p.oracle(0, "10.0.0.255"));
        Probe.due("just outside", -1, p.oracle(0, "10.0.1.0"));
        Probe.due("15", 15, p.oracle(0, "11.255.255.255"));
        Probe.due("just outside", -1, p.oracle(0, "12.0.0.0"));
        Probe.due("family 6", 1, p.oracle(0, "fd00::"));
        Probe.due("just outside", -1, p.oracle(0, "fd00:0:0:1::"));
        Probe.due("no router", -1, p.oracle(1, "10.0.0.1"));
        p.field.link(0, false);
        Probe.due("the link is down", -1, p.oracle(0, "10.0.0.255"));
        p.setUp("nostatic x 11.0.0.0/8");
        Probe.due("a dying route is none", -1, p.oracle(0, "11.0.0.1"));
        Probe.due("though it is there", 3, p.field.routes(0));
    }
}
