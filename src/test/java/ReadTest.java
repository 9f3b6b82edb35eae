/** Promises 4 and 5: read and fault, line by line. */
public final class ReadTest {
    public static void main(String[] args) {
        lines();
        links();
        allThere();
        routersAndJoins();
        joinOptions();
        keys();
        statics();
        filtersAndLists();
        policies();
        portLines();
        redistributes();
        timers();
        addresses();
        Probe.finish();
    }

    private static Probe made() {
        Probe p = new Probe();
        p.setUp("link a 1", "link b 2", "router x", "router y", "join x a 10.0.0.1/24");
        return p;
    }

    private static void lines() {
        Probe p = new Probe();
        Probe.due("no line", 0, p.read(""));
        Probe.due("one newline", 1, p.read("\n"));
        Probe.due("two newlines", 2, p.read("\n\n"));
        Probe.due("lines that are nothing", 4, p.read("# x\n \t \n  #link\n\t# \n"));
        Probe.due("the last may lack its newline", 2, p.read("link a 1\nlink b 1"));
        Probe.due("blanks", 1, p.read("  \tlink \t c  1\t "));
        Probe.due("the line that can't be", -4, p.read("link d 1\n\nlink e x\nlink f 1"));
        Probe.due("its fault", 4, p.field.fault());
        Probe.due("lines ahead of it are done", "a b c d", names(p));
        Probe.due("a good read", 0, p.read(""));
        Probe.due("fault of the latest read", 0, p.field.fault());
        p.fault("jon", 1);
        p.fault("Link a 1", 1);
        p.fault("linkx a 1", 1);
        p.fault("lin", 1);
        p.fault("link\r e 1", 1);
        p.fault("link e 1\r", 4);
        p.fault("link e\0 1", 3);
        p.fault("\fx", 1);
    }

    private static String names(Probe p) {
        StringBuilder out = new StringBuilder();
        for (String line : p.config().split("\n")) {
            out.append(out.length() == 0 ? "" : " ").append(line.split(" ")[1]);
        }
        return out.toString();
    }

    private static void links() {
        Probe p = new Probe();
        p.fault("link a", 2);
        p.fault("link", 2);
        p.fault("link a 1 jitter", 2);
        p.fault("link a 1 jitter 1 jitter 1", 2);
        p.fault("link a 1 mtu 84 mtu 84", 2);
        p.fault("link a 1 speed 3", 2);
        p.fault("link a 1 jitter 1 mtu 84 x", 2);
        p.fault("link A x", 3);
        p.fault("link abcdefghijklm 1", 3);
        p.fault("link a_ 1", 3);
        p.fault("link a 0", 4);
        p.fault("link a 6", 4);
        p.fault("link a 1x", 4);
        p.fault("link a 0000001", 4);
        p.fault("link a -1", 4);
        p.fault("link a :", 4);
        p.fault("link a /", 4);
        p.fault("link a 1 jitter 5", 4);
        p.fault("link a 1 mtu 83", 4);
        p.fault("link a 1 mtu 577", 4);
        p.fault("link a 000001", 0);
        p.fault("link a 1", 3);
        p.fault("link a 9", 3);
        p.fault("link abcdefghij09 5 mtu 84 jitter 4", 0);
        for (int i = 2; i < 10; i++) {
            p.fault("link n" + i + " 1 jitter 0 mtu 576", 0);
        }
        p.fault("link n10 9", 4);
        p.fault("link n10 1", 6);
        p.fault("link a 1", 3);
    }

    /** Numbers of links and routers behind the last, when there are as many as may be. */
    private static void allThere() {
        Probe p = new Probe();
        for (int i = 0; i < 10; i++) {
            p.setUp("link l" + i + " 1");
        }
        for (int i = 0; i < 6; i++) {
            p.setUp("router r" + i);
        }
        Probe.due("link 9", true, p.field.link(9, false));
        Probe.due("link 10", false, p.field.link(10, false));
        Probe.due("lose on 10", false, p.field.lose(10, 1));
        Probe.due("seen on 10", -1, p.field.seen(10));
        Probe.due("put on 10", false, p.put(10, 4, 520, 255, "0a000001"));
        Probe.due("router 5", true, p.field.run(5, false));
        Probe.due("router 6", false, p.field.run(6, false));
        Probe.due("routes of 6", -1, p.field.routes(6));
        Probe.due("count of 6", -1, p.field.count(6, 0));
        Probe.due("show of 6", -1, p.field.show(6, 0));
        Probe.due("way of 6", "NONE", p.way(6, "10.0.0.1"));
        Probe.due("oracle of 6", -1, p.oracle(6, "10.0.0.1"));
        Probe.due("the least number", false, p.field.link(Integer.MIN_VALUE, false));
        Probe.due("the greatest number", false, p.field.run(Integer.MAX_VALUE, false));
    }

    private static void routersAndJoins() {
        Probe p = new Probe();
        p.setUp("link a 1", "link b 1", "link c 1", "link d 1", "link e 1");
        p.fault("router", 2);
        p.fault("router x y", 2);
        p.fault("router X", 3);
        for (int i = 0; i < 6; i++) {
            p.fault("router r" + i, 0);
        }
        p.fault("router r0", 3);
        p.fault("router r6", 6);
        p.fault("join r0 a", 2);
        p.fault("join q a 10.0.0.1/24", 3);
        p.fault("join r0 q 10.0.0.1/24", 3);
        p.fault("join r0 a 10.0.0.1", 5);
        p.fault("join r0 a 10.0.0.1/33", 5);
        p.fault("join r0 a 10.0.0.1/24", 0);
        p.fault("join r0 a 10.0.9.1/24", 3);
        p.fault("join r0 a 10.0.9.256/24", 5);
        p.fault("join r0 a 10.0.9.1/24 cost 99", 3);
        p.fault("join r0 a 10.0.9.1/24 cost", 2);
        p.fault("join r0 a fd00::1/64", 0);
        p.fault("join r0 a fd00::2/64", 3);
        p.setUp("join r0 b 10.0.1.1/24", "join r0 c 10.0.2.1/24", "join r0 d 10.0.3.1/24");
        p.fault("join r0 e 10.0.4.1/24 cost 16", 4);
        p.fault("join r0 e 10.0.4.1/24", 6);
        p.fault("join r0 d fd00:3::1/64", 0);
        Probe.due("interfaces", 4, p.show(0, 1).split("\n").length);
    }

    private static void joinOptions() {
        Probe p = new Probe();
        p.setUp("link a 1", "link b 1", "router r");
        p.fault("join r a 10.0.0.1/24 bogus", 2);
        p.fault("join r a 10.0.0.1/24 passive passive", 2);
        p.fault("join r a 10.0.0.1/24 md5 1 a md5 2 b", 2);
        p.fault("join r a 10.0.0.1/24 md5 1", 2);
        p.fault("join r a 10.0.0.1/24 split none", 2);
        p.fault("join r a 10.0.0.1/24 split 5", 2);
        p.fault("join r a 10.0.0.1/24 password", 2);
        p.fault("join q q 10.0.0.1/240 cost 0 cost 1", 2);
        p.fault("join r a 10.0.0.1/24 cost 0", 4);
        p.fault("join r a 10.0.0.1/24 cost x", 4);
        p.fault("join r a 10.0.0.1/24 md5 256 a", 4);
        p.fault("join r a 10.0.0.1/24 sha 1 12345678901234567", 4);
        p.fault("join r a 10.0.0.1/24 password \u0080", 4);
        p.fault("join r a 10.0.0.1/24 password \u007f", 4);
        Probe.due("nothing was done", "", p.show(0, 1));
        p.fault("join r a 10.0.0.1/24 password cost cost 000015 split off passive md5 255 1234567890123456", 0);
        Probe.due("the key takes the place of the password",
                "a up cost 15 off chain passive 10.0.0.1/24\n", p.show(0, 1));
        p.fault("join r a fd00::1/64 split simple password ~!", 0);
        Probe.due("the password takes that of the chain",
                "a up cost 15 simple password passive 10.0.0.1/24 fd00::1/64\n", p.show(0, 1));
        p.fault("join r b 10.0.1.1/24 md5 1 x sha 2 y", 0);
        p.setUp("key r b 3 md5 x 0 9", "key r b 4 md5 x 0 9");
        p.fault("join r b fd00:1::1/64 md5 9 x password y", 6);
        p.fault("join r b fd00:1::1/64 md5 9 x cost 16", 4);
        p.fault("join r b fd00:1::1/64 password y md5 9 x", 0);
        Probe.due("one key", true, p.config().contains("\nkey r b 9 md5 x 0 99999\n"));
        Probe.due("no other", false, p.config().contains("key r b 1 "));
    }

    private static void keys() {
        Probe p = made();
        p.fault("key x a 1 md5 w 0", 2);
        p.fault("key x a 1 md5 w 0 1 2", 2);
        p.fault("key x a 999 md4 w 0 1", 2);
        p.fault("key q a 1 md5 w 0 1", 3);
        p.fault("key x b 999 md5 w 0 1", 3);
        p.fault("key y a 1 md5 w 0 1", 3);
        p.fault("key x q 1 md5 w 0 1", 3);
        p.fault("key x a 256 md5 w 0 1", 4);
        p.fault("key x a 1 md5 12345678901234567 0 1", 4);
        p.fault("key x a 1 md5 w 2 1", 4);
        p.fault("key x a 1 md5 w 0 100000", 4);
        p.fault("key x a 1 md5 w x 1", 4);
        for (int i = 0; i < 4; i++) {
            p.fault("key x a " + i + " sha w 5 5", 0);
        }
        p.fault("key x a 4 md5 w 0 1", 6);
        p.fault("key x a 3 sha w 0 0", 0);
        p.fault("key x a 3 md5 w 0 99999", 0);
        p.fault("nokey x", 2);
        p.fault("nokey x a b", 2);
        p.fault("nokey x b", 3);
        p.fault("nokey q a", 3);
        p.fault("nokey x a", 0);
        Probe.due("no keys", "a up cost 1 poison open 10.0.0.1/24\n", p.show(0, 1));
    }

    private static void statics() {
        Probe p = made();
        p.fault("static x 10.9.0.0/16", 2);
        p.fault("static x 10.9.0.0/16 1 tag", 2);
        p.fault("static x 10.9.0.0/16 1 tug 5", 2);
        p.fault("static x 10.9.0.0/16 1 tag 5 tag 5", 2);
        p.fault("static q 10.9.0.0/8 0", 3);
        p.fault("static x 10.9.0.0/8 0", 5);
        p.fault("static x 10.9.0.0/16 0", 4);
        p.fault("static x 10.9.0.0/16 16", 4);
        p.fault("static x 10.9.0.0/16 :", 4);
        p.fault("static x 10.9.0.0/16 /", 4);
        p.fault("static x 10.9.0.0/16 1 tag 65536", 4);
        p.fault("nostatic x 10.9.0.0/16", 3);
        p.fault("static x 10.9.0.0/16 15 tag 65535", 0);
        p.fault("static x 10.9.0.0/16 1", 0);
        Probe.due("the tag is 0 if not told", true, p.config().contains("static x 10.9.0.0/16 1 tag 0\n"));
        p.fault("nostatic x 10.9.0.0/8", 5);
        p.fault("nostatic q 10.9.0.0/16", 3);
        p.fault("nostatic x", 2);
        p.fault("nostatic x 10.9.0.0/16 1", 2);
        p.fault("nostatic x 10.9.0.0/16", 0);
        p.fault("nostatic x 10.9.0.0/16", 3);
        for (int i = 0; i < 32; i++) {
            p.fault("static x 11." + i + ".0.0/16 1", 0);
        }
        p.fault("static x 11.32.0.0/16 1", 6);
        p.fault("static x 11.31.0.0/16 2", 0);
        p.fault("static y 11.32.0.0/16 1", 0);
    }

    private static void filtersAndLists() {
        Probe p = made();
        p.fault("filter x in 10.0.0.0/8", 2);
        p.fault("filter x by 10.0.0.0/8 deny", 2);
        p.fault("filter x in 10.0.0.0/8 allow", 2);
        p.fault("filter q in 10.0.0.1/8 deny", 3);
        p.fault("filter x in 10.0.0.1/8 deny", 5);
        for (int i = 0; i < 32; i++) {
            p.fault("filter x in 10.0.0.0/8 deny", 0);
        }
        p.fault("filter x in 10.0.0.0/8 deny", 6);
        p.fault("filter x out 10.0.0.0/8 deny", 0);
        p.fault("list n permit", 2);
        p.fault("list n allow 10.0.0.0/8", 2);
        p.fault("list n permit 10.0.0.0/8 ge", 2);
        p.fault("list n permit 10.0.0.0/8 ge 9 ge 9", 2);
        p.fault("list n permit 10.0.0.0/8 eq 9", 2);
        p.fault("list N permit 10.0.0.0/4 ge 99", 3);
        p.fault("list n permit 10.0.0.0/4 ge 99", 5);
        p.fault("list n permit 10.0.0.0/8 ge 7", 4);
        p.fault("list n permit 10.0.0.0/8 le 33", 4);
        p.fault("list n permit fd00::/16 le 129", 4);
        p.fault("list n permit 10.0.0.0/8 le 9 ge 10", 4);
        p.fault("distribute x in * n", 3);
        p.fault("list n permit fd00::/16 le 128 ge 16", 0);
        p.fault("distribute x in * n", 0);
        for (int i = 1; i < 16; i++) {
            p.fault("list n deny 10.0.0.0/8 ge 8 le 8", 0);
        }
        p.fault("list n deny 10.0.0.0/8", 6);
        for (int i = 1; i < 8; i++) {
            p.fault("list n" + i + " permit ::/0", 0);
        }
        p.fault("list n8 permit 0.0.0.0/0 ge 40", 4);
        p.fault("list n8 permit 0.0.0.0/0", 6);
    }

    private static void policies() {
        Probe p = made();
        p.setUp("list n permit 10.0.0.0/8");
        p.fault("distribute x in *", 2);
        p.fault("distribute x at * n", 2);
        p.fault("distribute x in * n 1", 2);
        p.fault("distribute q in * n", 3);
        p.fault("distribute x in q n", 3);
        p.fault("distribute x in * m", 3);
        for (int i = 0; i < 8; i++) {
            p.fault("distribute x " + (i % 2 == 0 ? "in" : "out") + " b n", 0);
        }
        p.fault("distribute x in * n", 6);
        p.fault("distribute y in * n", 0);
        p.fault("offset x in * n", 2);
        p.fault("offset x in * m 0", 3);
        p.fault("offset x in * n 0", 4);
        p.fault("offset x in * n 16", 4);
        for (int i = 0; i < 8; i++) {
            p.fault("offset x " + (i % 2 == 0 ? "in" : "out") + " * n 15", 0);
        }
        p.fault("offset x out b n 1", 6);
    }

    private static void portLines() {
        Probe p = made();
        p.fault("summary x a", 2);
        p.fault("summary x b 10.0.0.1/8", 3);
        p.fault("summary x a 10.0.0.1/8", 5);
        p.fault("neighbor x a", 2);
        p.fault("neighbor x b 10.0.0.2", 3);
        p.fault("neighbor x a 10.0.0.2/24", 5);
        for (int i = 0; i < 4; i++) {
            p.fault("summary x a fd00::/16", 0);
            p.fault("neighbor x a " + (i % 2 == 0 ? "10.0.0.2" : "fd00::2"), 0);
        }
        p.fault("summary x a 10.0.0.0/8", 6);
        p.fault("neighbor x a 10.0.0.2", 6);
        p.fault("default x a", 2);
        p.fault("default x a off only", 2);
        p.fault("default x a 1 once", 2);
        p.fault("default x a 1 only only", 2);
        p.fault("default x b 99", 3);
        p.fault("default x a on", 4);
        p.fault("default x a 0", 4);
        p.fault("default x a 16", 4);
        p.fault("default x a 15 only", 0);
        p.fault("default x a 1", 0);
        p.fault("default x a off", 0);
    }

    private static void redistributes() {
        Probe p = made();
        p.fault("redistribute x connected", 2);
        p.fault("redistribute x learned own", 2);
        p.fault("redistribute x static own tag", 2);
        p.fault("redistribute x static own top 5", 2);
        p.fault("redistribute q static on", 3);
        p.fault("redistribute x static on", 4);
        p.fault("redistribute x static 0", 4);
        p.fault("redistribute x static 16", 4);
        p.fault("redistribute x static own tag 65536", 4);
        p.fault("redistribute x static off tag 65535", 0);
        p.fault("redistribute x connected 15", 0);
    }

    private static void timers() {
        Probe p = made();
        p.fault("timers x 1 2", 2);
        p.fault("timers x 1 2 3 4", 2);
        p.fault("timers q 1 2 0", 3);
        p.fault("timers x 0 2 3", 4);
        p.fault("timers x 1 1001 3", 4);
        p.fault("timers x 1 2 x", 4);
        p.fault("timers x 1 1000 1", 0);
    }

    private static void addresses() {
        String[] wrong = {"10.0.0", "10.0.0.0.0", "10.0.0.00", "01.0.0.0", "10.0.0.256", "10.0.0.1000", "10..0.0",
            ".10.0.0.0", "10.0.0.0.", "10.0.0.a", "", "1:2:3:4:5:6:7", "1:2:3:4:5:6:7:8:9", "1::2::3", ":::",
            ":1:2:3:4:5:6:7:8", "1:2:3:4:5:6:7:8:", "1:2:3:4::5:6:7:8", "12345::", "g::", "G::", "`::", "@::", "/::", ":", "1:", "::1:", "1:::2",
            "::1.2.3.4", "1: :2", "1:2:3:4:5:6:7:8::", "::1:2:3:4:5:6:7:8", "10.0.0.:", "10.0.0./", "1;::"};
        Probe p = made();
        for (String one : wrong) {
            p.feed(one);
            Probe.due("oracle of " + one, RoutingField.NONE, p.field.oracle(0));
            p.fault("static x " + one.replace(" ", "") + "/0 1", 5);
            p.fault("neighbor x a " + (one.isEmpty() ? "-" : one.replace(" ", "_")), 5);
        }
        String[] texts = {"1:2:3:4:5:6:7:8", "1:2:3:4:5:6:7:8", "0:0:0:0:0:0:0:0", "::", "::1", "::1",
            "1::", "1::", "FD00::00aB", "fd00::ab", "1:0:0:2:0:0:0:3", "1:0:0:2::3", "1:0:0:2:3:0:0:4", "1::2:3:0:0:4",
            "1:2:3:4:5:6:7::", "1:2:3:4:5:6:7:0", "::2:3:4:5:6:7:8", "0:2:3:4:5:6:7:8", "1::3:4:5:6:7:8",
            "1:0:3:4:5:6:7:8", "0:1:0:1:0:1:0:1", "0:1:0:1:0:1:0:1", "1:0:0:0:0:0:0:8", "1::8",
            "::8000:1", "::8000:1", "1::ffff", "1::ffff", "8000::8000:0:0:0:0", "8000:0:0:8000::", "A:b:C:d:E:f:0:9",
            "a:b:c:d:e:f:0:9", "255.0.10.1", "255.0.10.1", "0.0.0.0", "0.0.0.0"};
        for (int i = 0; i < texts.length; i += 2) {
            Probe q = new Probe();
            int bits = texts[i].contains(":") ? 128 : 32;
            q.setUp("router x", "static x " + texts[i] + "/" + bits + " 1");
            Probe.due("text of " + texts[i], texts[i + 1] + "/" + bits + " 1 static\n", q.show(0, 0));
        }
        String[] lengths = {"10.0.0.0/08", "10.0.0.0/", "10.0.0.0", "10.0.0.0/33", "10.0.0.0/x", "10.0.0.0/8/8",
            "10.0.0.0/-1", "10.0.0.0/:", "10.0.0.0/1/", "10.0.0.0/1000", "::/129", "::/00", "10.0.0.0/6", "fd00::1/127", "0.0.0.1/0", "::1/0", "1:2:3:4:8000::/64"};
        for (String one : lengths) {
            p.fault("static x " + one + " 1", 5);
        }
        p.fault("static x 10.0.0.0/7 1", 0);
        p.fault("static x 0.0.0.0/0 1", 0);
        p.fault("static x ::/0 1", 0);
        p.fault("static x 1:2:3:4:8000::/65 1", 0);
        p.fault("static x 255.255.255.255/32 1", 0);
    }
}
