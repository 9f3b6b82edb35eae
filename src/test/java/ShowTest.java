/** Promises 11, 14 and 16: show, way, and the text they leave. */
public final class ShowTest {
    public static void main(String[] args) {
        answers();
        routesAndTimes();
        interfaces();
        counts();
        ways();
        Probe.finish();
    }

    private static Probe made() {
        Probe p = new Probe();
        p.setUp("link one 1", "link two 1", "router x", "join x one 10.0.0.77/24 cost 4", "join x one fd00::1/64",
                "static x 10.0.0.0/8 3", "static x 1::/16 5", "timers x 1000 50 20");
        p.field.ticks(3);
        p.put(0, 4, 520, 255, Wire.address("10.0.0.2") + Wire.RESPONSE_4 + Wire.entry("11.0.0.0/8", 0, 1));
        p.put(0, 6, 521, 255, Wire.address("fd00::2") + Wire.RESPONSE_6 + Wire.entry("2::/16", 0, 10));
        p.field.ticks(1);
        return p;
    }

    private static void answers() {
        Probe p = made();
        int length = p.field.show(0, 0);
        String text = p.text(length);
        Probe.due("no router", -1, p.field.show(1, 0));
        Probe.due("no router below 0", -1, p.field.show(-1, 0));
        Probe.due("what 4", -1, p.field.show(0, 4));
        Probe.due("what -1", -1, p.field.show(0, -1));
        Probe.due("the text stays", text, p.text(length));
    }

    private static void routesAndTimes() {
        Probe p = made();
        Probe.due("routes", "10.0.0.0/8 3 static\n10.0.0.0/24 4 direct one\n11.0.0.0/8 5 via 10.0.0.2 one\n"
                + "1::/16 5 static\n2::/16 14 via fd00::2 one\nfd00::/64 4 direct one\n", p.show(0, 0));
        Probe.due("times", "10.0.0.0/8 -\n10.0.0.0/24 -\n11.0.0.0/8 50 changed\n1::/16 -\n2::/16 50 changed\n"
                + "fd00::/64 -\n", p.show(0, 3));
        p.field.ticks(3);
        p.setUp("static x 10.0.0.0/8 4", "nostatic x 1::/16");
        Probe.due("times later", "10.0.0.0/8 - changed\n10.0.0.0/24 -\n11.0.0.0/8 47\n1::/16 20 changed\n"
                + "2::/16 47\nfd00::/64 -\n", p.show(0, 3));
        p.field.link(0, false);
        Probe.due("routes without the link", "10.0.0.0/8 4 static\n10.0.0.0/24 16 via 0.0.0.0 -\n"
                + "11.0.0.0/8 16 via 10.0.0.2 one\n1::/16 16 via :: -\n2::/16 16 via fd00::2 one\nfd00::/64 16 via :: -\n",
                p.show(0, 0));
    }

    private static void interfaces() {
        Probe p = new Probe();
        p.setUp("link one 1", "link two 1", "link three 1", "router x", "join x two 1:2::3:4/65 split off passive",
                "join x one 10.1.2.3/8 cost 15 password w", "join x three 10.1.2.3/32 split simple sha 1 w");
        p.field.link(1, false);
        Probe.due("interfaces", "two down cost 1 off open passive 1:2::3:4/65\n"
                + "one up cost 15 poison password 10.1.2.3/8\nthree up cost 1 simple chain 10.1.2.3/32\n", p.show(0, 1));
        p.setUp("join x two 0.0.0.1/0 cost 3", "nokey x one", "key x three 1 md5 w 5 6", "join x one ::/128 passive");
        Probe.due("more of them", "two down cost 3 off open passive 0.0.0.1/0 1:2::3:4/65\n"
                + "one up cost 15 poison open passive 10.1.2.3/8 ::/128\nthree up cost 1 simple chain 10.1.2.3/32\n",
                p.show(0, 1));
        p.field.run(0, false);
        Probe.due("of one that stands still", 3, p.show(0, 1).split("\n").length);
    }

    private static void counts() {
        Probe p = made();
        p.put(0, 4, 520, 255, Wire.address("10.9.0.2"));
        p.put(0, 4, 520, 255, Wire.address("10.0.0.2"));
        p.put(0, 4, 520, 255, Wire.address("10.0.0.2") + Wire.RESPONSE_4 + Wire.password("x"));
        p.put(0, 4, 520, 255, Wire.address("10.0.0.2") + Wire.RESPONSE_4 + Wire.entry("127.0.0.0/8", 0, 1).repeat(2));
        p.put(0, 4, 520, 255, Wire.address("10.0.0.2") + Wire.REQUEST_4 + Wire.ALL_4);
        p.put(0, 4, 521, 255, Wire.address("10.0.0.2") + Wire.RESPONSE_4 + Wire.ALL_4);
        p.put(0, 6, 521, 0, Wire.address("fd00::2") + Wire.RESPONSE_6 + Wire.ALL_6);
        p.field.ticks(1);
        // Two requests, two triggered datagrams (the statics), one answer; then a trigger is still set.
        Probe.due("counts", "0 9\n1 1\n2 1\n3 1\n4 2\n5 5\n6 1\n7 6\n8 1\n9 1\n10 1\n", p.show(0, 2));
        for (int i = 0; i <= 10; i++) {
            Probe.due("count " + i, Integer.parseInt(p.show(0, 2).split("\n")[i].split(" ")[1]), p.field.count(0, i));
        }
        p.field.run(0, false);
        Probe.due("they stay behind a stop", true, p.show(0, 2).startsWith("0 9\n1 1\n2 1\n"));
    }

    private static void ways() {
        Probe p = made();
        Probe.due("the longest", "10.0.0.0/24 4 direct one", p.way(0, "10.0.0.200"));
        Probe.due("a shorter one", "10.0.0.0/8 3 static", p.way(0, "10.0.1.0"));
        Probe.due("learned", "11.0.0.0/8 5 via 10.0.0.2 one", p.way(0, "11.255.255.255"));
        Probe.due("family 6", "2::/16 14 via fd00::2 one", p.way(0, "2:FFFF::"));
        int length = p.field.show(0, 0);
        String text = p.text(length);
        Probe.due("none covers", "NONE", p.way(0, "12.0.0.0"));
        Probe.due("no address", "NONE", p.way(0, "10.0.0"));
        Probe.due("a prefix", "NONE", p.way(0, "10.0.0.0/8"));
        Probe.due("a blank", "NONE", p.way(0, "10.0.0.1 "));
        Probe.due("no bytes", "NONE", p.way(0, ""));
        Probe.due("no router", "NONE", p.way(1, "10.0.0.1"));
        Probe.due("no router below 0", "NONE", p.way(-1, "10.0.0.1"));
        Probe.due("the tape is empty then", -1, p.field.way(0));
        Probe.due("the text stays", text, p.text(length));
        p.field.link(0, false);
        Probe.due("not a dying one", "10.0.0.0/8 3 static", p.way(0, "10.0.0.200"));
        Probe.due("none but dying ones", "NONE", p.way(0, "11.0.0.1"));
        p.setUp("static x 0.0.0.0/0 1", "static x 10.0.0.200/32 2");
        Probe.due("length 32", "10.0.0.200/32 2 static", p.way(0, "10.0.0.200"));
        Probe.due("length 0", "0.0.0.0/0 1 static", p.way(0, "200.0.0.200"));
    }
}
