/** Promise 15 (seen), with 'Sending': what is told on an interface, and how, byte by byte. */
public final class TellTest {
    public static void main(String[] args) {
        splits();
        redistributed();
        filtersAndLists();
        summaries();
        summaryTriggers();
        defaults();
        neighborsAndPassive();
        sizes();
        order();
        lapsed();
        Probe.finish();
    }

    /** Router x on links a and b; it has heard 12.0.0.0/8 on a. */
    private static Probe made(String options, String... more) {
        Probe p = new Probe();
        p.setUp("link a 1", "link b 1", "router x", "join x a 10.0.0.1/24 " + options, "join x b 10.0.1.1/24",
                "timers x 10 100 50");
        p.setUp(more);
        p.field.ticks(3);
        p.put(0, 4, 520, 255, Wire.address("10.0.0.2") + Wire.RESPONSE_4 + Wire.entry("12.0.0.0/8", 4, 1));
        p.field.ticks(1);
        return p;
    }

    private static String told(String... entries) {
        return entries.length == 0 ? "" : Wire.RESPONSE_4 + String.join("", entries);
    }

    /** What goes on both links in the update at 30. */
    private static void due(String what, Probe p, String onA, String onB) {
        p.field.ticks(29 - p.field.now());
        int[] sent = {p.field.count(0, 5)};
        p.put(0, 4, 520, 255, Wire.address("10.0.0.3"));
        p.put(1, 4, 520, 255, Wire.address("10.0.1.3"));
        p.field.ticks(1);
        Probe.due(what + " on a", onA, p.seen(0));
        Probe.due(what + " on b", onB, p.seen(1));
        int datagrams = (onA.isEmpty() ? 0 : 1) + (onB.isEmpty() ? 0 : 1);
        Probe.due(what + ": datagrams", sent[0] + datagrams, p.field.count(0, 5));
    }

    private static void splits() {
        String far = Wire.entry("12.0.0.0/8", 4, 2);
        String a = Wire.entry("10.0.0.0/24", 0, 1);
        String b = Wire.entry("10.0.1.0/24", 0, 1);
        due("poison", made(""), told(b, Wire.entry("12.0.0.0/8", 4, 16)), told(a, far));
        due("simple", made("split simple"), told(b), told(a, far));
        due("off", made("split off"), told(b, far), told(a, far));
    }

    private static void redistributed() {
        String far = Wire.entry("12.0.0.0/8", 4, 2);
        String poison = Wire.entry("12.0.0.0/8", 4, 16);
        due("off", made("", "static x 10.5.0.0/16 3 tag 9", "redistribute x connected off",
                "redistribute x static off tag 7"), told(poison), told(far));
        due("metrics", made("", "static x 10.5.0.0/16 3 tag 9", "redistribute x connected 5 tag 6",
                "redistribute x static 7"),
                told(Wire.entry("10.0.1.0/24", 6, 5), Wire.entry("10.5.0.0/16", 0, 7), poison),
                told(Wire.entry("10.0.0.0/24", 6, 5), Wire.entry("10.5.0.0/16", 0, 7), far));
        due("metric 1", made("", "static x 10.5.0.0/16 3 tag 9", "redistribute x static 1 tag 2"),
                told(Wire.entry("10.0.1.0/24", 0, 1), Wire.entry("10.5.0.0/16", 2, 1), poison),
                told(Wire.entry("10.0.0.0/24", 0, 1), Wire.entry("10.5.0.0/16", 2, 1), far));
        due("own with a tag", made("", "static x 10.5.0.0/16 3 tag 9", "redistribute x static 7 tag 1",
                "redistribute x static own tag 2", "redistribute x connected 3", "redistribute x connected own"),
                told(Wire.entry("10.0.1.0/24", 0, 1), Wire.entry("10.5.0.0/16", 9, 3), poison),
                told(Wire.entry("10.0.0.0/24", 0, 1), Wire.entry("10.5.0.0/16", 9, 3), far));
    }

    private static void filtersAndLists() {
        String five = Wire.entry("10.5.0.0/16", 0, 3);
        due("filters", made("", "static x 10.5.0.0/16 3", "filter x out 10.5.0.0/16 permit",
                "filter x out 10.0.0.0/8 deny", "filter x in 10.5.0.0/16 deny"),
                told(five, Wire.entry("12.0.0.0/8", 4, 16)), told(five, Wire.entry("12.0.0.0/8", 4, 2)));
        due("lists", made("", "static x 10.5.0.0/16 3", "list all permit 0.0.0.0/0 le 32", "list n deny 12.0.0.0/8",
                "list n permit 0.0.0.0/0 le 32", "list m permit 10.5.0.0/16", "distribute x out * all",
                "distribute x out b n", "distribute x out a m", "distribute x in b m"),
                told(five), told(Wire.entry("10.0.0.0/24", 0, 1), five));
        due("offsets", made("split off", "static x 10.5.0.0/16 3", "list n permit 12.0.0.0/8", "list m permit 0.0.0.0/0 le 32",
                "offset x out b n 4", "offset x out * m 13", "offset x out * n 1", "offset x in b m 5"),
                told(Wire.entry("10.0.1.0/24", 0, 14), Wire.entry("10.5.0.0/16", 0, 16), Wire.entry("12.0.0.0/8", 4, 15)),
                told(Wire.entry("10.0.0.0/24", 0, 14), Wire.entry("10.5.0.0/16", 0, 16), Wire.entry("12.0.0.0/8", 4, 6)));
    }

    private static void summaries() {
        due("the least metric", made("", "static x 10.5.0.0/16 3 tag 9", "static x 10.6.0.0/16 2 tag 9",
                "static x 10.0.0.0/8 4", "static x 11.0.0.0/8 5", "summary x a 10.0.0.0/8", "summary x b 10.4.0.0/14",
                "summary x b 8.0.0.0/5", "redistribute x connected 1"),
                told(Wire.entry("10.0.0.0/8", 0, 1), Wire.entry("11.0.0.0/8", 0, 5), Wire.entry("12.0.0.0/8", 4, 16)),
                told(Wire.entry("8.0.0.0/5", 0, 1), Wire.entry("10.4.0.0/14", 0, 2)));
        due("only of what is told", made("split simple", "static x 10.5.0.0/16 3", "filter x out 10.5.0.0/16 deny",
                "summary x a 12.0.0.0/6", "summary x a 10.5.0.0/16", "summary x b 12.0.0.0/6"),
                told(Wire.entry("10.0.1.0/24", 0, 1)),
                told(Wire.entry("10.0.0.0/24", 0, 1), Wire.entry("12.0.0.0/6", 0, 2)));
        due("of a poisoned one", made("", "summary x a 12.0.0.0/6"),
                told(Wire.entry("10.0.1.0/24", 0, 1), Wire.entry("12.0.0.0/6", 0, 16)),
                told(Wire.entry("10.0.0.0/24", 0, 1), Wire.entry("12.0.0.0/8", 4, 2)));
        due("lists look at the routes", made("", "list n permit 12.0.0.0/8", "distribute x out b n",
                "offset x out b n 3", "summary x b 12.0.0.0/7"),
                told(Wire.entry("10.0.1.0/24", 0, 1), Wire.entry("12.0.0.0/8", 4, 16)),
                told(Wire.entry("12.0.0.0/7", 0, 5)));
    }

    /** In a trigger a summary is told when a changed one is in it, with the least metric of all. */
    private static void summaryTriggers() {
        Probe p = made("", "static x 10.5.0.0/16 3", "static x 11.0.0.0/8 4", "summary x a 10.0.0.0/8",
                "timers x 1000 100 50");
        p.field.ticks(8);
        p.setUp("static x 10.5.0.0/16 9");
        p.field.ticks(5);
        Probe.due("a changed one is in it", told(Wire.entry("10.0.0.0/8", 0, 1)), p.seen(0));
        Probe.due("the changed one alone", told(Wire.entry("10.5.0.0/16", 0, 9)), p.seen(1));
        p.setUp("static x 11.0.0.0/8 5");
        p.field.ticks(5);
        Probe.due("none is in it", told(Wire.entry("11.0.0.0/8", 0, 5)), p.seen(0));
        p.setUp("filter x out 10.5.0.0/16 deny", "static x 10.5.0.0/16 8", "static x 11.0.0.0/8 6");
        p.field.ticks(5);
        Probe.due("one that is not told is in it", told(Wire.entry("11.0.0.0/8", 0, 6)), p.seen(0));
    }

    private static void defaults() {
        String far = Wire.entry("12.0.0.0/8", 4, 2);
        String[] wide = {"static x 0.0.0.0/0 3 tag 8"};
        due("a route", made("", wide),
                told(Wire.entry("0.0.0.0/0", 8, 3), Wire.entry("10.0.1.0/24", 0, 1), Wire.entry("12.0.0.0/8", 4, 16)),
                told(Wire.entry("0.0.0.0/0", 8, 3), Wire.entry("10.0.0.0/24", 0, 1), far));
        due("a default in its place", made("", "static x 0.0.0.0/0 3 tag 8", "default x a 7", "default x b 6 only"),
                told(Wire.entry("0.0.0.0/0", 0, 7), Wire.entry("10.0.1.0/24", 0, 1), Wire.entry("12.0.0.0/8", 4, 16)),
                told(Wire.entry("0.0.0.0/0", 0, 6)));
        due("a summary of all", made("", "summary x a 0.0.0.0/0", "summary x b 0.0.0.0/0", "default x a 7"),
                told(Wire.entry("0.0.0.0/0", 0, 7)), told(Wire.entry("0.0.0.0/0", 0, 1)));
        due("of metric 1", made("", "static x 0.0.0.0/0 3", "default x a 1", "summary x b 0.0.0.0/0", "default x b 1"),
                told(Wire.entry("0.0.0.0/0", 0, 1), Wire.entry("10.0.1.0/24", 0, 1), Wire.entry("12.0.0.0/8", 4, 16)),
                told(Wire.entry("0.0.0.0/0", 0, 1)));
        due("off again", made("", "default x a 7 only", "default x a off"),
                told(Wire.entry("10.0.1.0/24", 0, 1), Wire.entry("12.0.0.0/8", 4, 16)),
                told(Wire.entry("10.0.0.0/24", 0, 1), far));
        Probe p = made("", "default x a 7", "default x b 6 only", "timers x 1000 100 50");
        p.field.ticks(8);
        p.setUp("static x 0.0.0.0/0 3", "static x 11.0.0.0/8 5");
        String before = p.seen(1);
        p.field.ticks(5);
        Probe.due("no default in a trigger", told(Wire.entry("11.0.0.0/8", 0, 5)), p.seen(0));
        Probe.due("nothing with only", before, p.seen(1));
        p.setUp("join x a fd00::1/64");
        p.put(0, 6, 521, 255, Wire.address("fd00::2") + Wire.REQUEST_6 + Wire.ALL_6);
        p.field.ticks(1);
        Probe.due("in family 6, too", Wire.RESPONSE_6 + Wire.entry("::/0", 0, 7), p.seen(0));
    }

    private static void neighborsAndPassive() {
        Probe p = new Probe();
        p.setUp("link a 1", "router x", "router y", "router z", "join x a 10.0.0.1/24 passive", "join y a 10.0.0.2/24",
                "join z a 10.0.0.3/24", "static x 10.5.0.0/16 1");
        p.field.ticks(8);
        Probe.due("answers to requests go", 2, p.field.routes(1));
        p.setUp("static x 10.6.0.0/16 1");
        int sent = p.field.count(0, 5);
        p.field.ticks(8);
        Probe.due("nothing goes to all", sent, p.field.count(0, 5));
        p.setUp("neighbor x a 10.0.0.3", "neighbor x a fd00::3", "neighbor x a 10.0.0.9", "static x 10.7.0.0/16 1");
        p.field.ticks(5);
        Probe.due("to two neighbors of the family", sent + 2, p.field.count(0, 5));
        Probe.due("not to y", "NONE", p.way(1, "10.7.0.1"));
        Probe.due("to z", "10.7.0.0/16 2 via 10.0.0.1 a", p.way(2, "10.7.0.1"));
        p.setUp("router w", "join w a 10.0.0.3/24");
        p.field.ticks(30);
        Probe.due("to the first that has the address", 1, p.field.routes(3));
        p.field.run(2, false);
        p.field.ticks(31);
        Probe.due("of those that run", 4, p.field.routes(3));
    }

    private static void sizes() {
        check("25 entries", "mtu 576", "", "", new int[] {25, 5});
        check("24 with a password", "", " password w", Wire.password("w"), new int[] {24, 6});
        check("as many as M has room for", "mtu 143", "", "", new int[] {6, 6, 6, 6, 6});
        check("with the password", "mtu 144", " password w", Wire.password("w"), new int[] {6, 6, 6, 6, 6});
        check("one byte less", "mtu 143", " password w", Wire.password("w"), new int[] {5, 5, 5, 5, 5, 5});
    }

    private static void check(String what, String mtu, String keys, String first, int[] sizes) {
        Probe p = new Probe();
        p.setUp("link a 1 " + mtu, "router x", "join x a 10.0.0.1/24" + keys);
        for (int i = 0; i < 30; i++) {
            p.setUp("static x 11." + i + ".0.0/16 1");
        }
        p.field.ticks(1);
        Probe.due(what + ": datagrams", 1 + sizes.length, p.field.count(0, 5));
        StringBuilder last = new StringBuilder(Wire.RESPONSE_4 + first);
        for (int i = 30 - sizes[sizes.length - 1]; i < 30; i++) {
            last.append(Wire.entry("11." + i + ".0.0/16", 0, 1));
        }
        Probe.due(what + ": the last one", last.toString(), p.seen(0));
        p.field.ticks(28);
        p.put(0, 4, 520, 255, Wire.address("10.0.0.9") + Wire.REQUEST_4 + first + Wire.ALL_4);
        p.field.ticks(1);
        Probe.due(what + ": answer and update", 1 + 3 * sizes.length, p.field.count(0, 5));
    }

    private static void order() {
        Probe p = new Probe();
        p.setUp("link a 1", "router x", "join x a 10.0.0.1/24", "static x 200.0.0.0/8 1", "static x 10.0.0.0/16 1",
                "static x 10.0.0.0/8 1", "static x 9.0.0.0/8 1", "static x 8000::/1 1", "static x ::/1 1",
                "static x 1::/16 1", "static x 1:2:3:4::/64 1", "static x 1:2:3:4:8000::/65 1", "static x 1:2:3:4::/70 1");
        Probe.due("without sign, then by length", "9.0.0.0/8 1 static\n10.0.0.0/8 1 static\n10.0.0.0/16 1 static\n"
                + "10.0.0.0/24 1 direct a\n200.0.0.0/8 1 static\n::/1 1 static\n1::/16 1 static\n"
                + "1:2:3:4::/64 1 static\n1:2:3:4::/70 1 static\n1:2:3:4:8000::/65 1 static\n8000::/1 1 static\n",
                p.show(0, 0));
        p.field.ticks(1);
        Probe.due("told so", Wire.RESPONSE_4 + Wire.entry("9.0.0.0/8", 0, 1) + Wire.entry("10.0.0.0/8", 0, 1)
                + Wire.entry("10.0.0.0/16", 0, 1) + Wire.entry("200.0.0.0/8", 0, 1), p.seen(0));
    }

    /** What was connected and dies is told as a learned one without an interface. */
    private static void lapsed() {
        Probe p = made("", "redistribute x connected off", "static x 10.5.0.0/16 2 tag 9", "redistribute x static off",
                "timers x 1000 100 50");
        p.field.ticks(8);
        p.field.link(0, false);
        p.setUp("nostatic x 10.5.0.0/16");
        p.field.ticks(5);
        Probe.due("with 16 and tag 0", told(Wire.entry("10.0.0.0/24", 0, 16), Wire.entry("10.5.0.0/16", 0, 16),
                Wire.entry("12.0.0.0/8", 4, 16)), p.seen(1));
    }
}
