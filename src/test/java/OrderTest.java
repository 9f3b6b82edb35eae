/** Promises 6, 7, 9 and 15: in which order things come and go within one call. */
public final class OrderTest {
    public static void main(String[] args) {
        comeInTheOrderOfSending();
        overtaken();
        comeBeforeTurns();
        hearByNumber();
        turnsByNumber();
        interfacesInOrder();
        familiesInOrder();
        neighborsInOrder();
        askedByNumber();
        answersStandInTheOrderOfPrefixes();
        Probe.finish();
    }

    private static String response(String prefix, long metric) {
        return Wire.RESPONSE_4 + Wire.entry(prefix, 0, metric);
    }

    private static Probe made(String... more) {
        Probe p = new Probe();
        p.setUp("link a 1", "router x", "join x a 10.0.0.1/24", "timers x 1000 1000 1000");
        p.setUp(more);
        p.field.ticks(3);
        return p;
    }

    private static void comeInTheOrderOfSending() {
        for (int last : new int[] {5, 16}) {
            Probe p = made();
            p.put(0, 4, 520, 255, Wire.address("10.0.0.2") + response("11.0.0.0/8", 7));
            p.field.ticks(1);
            p.put(0, 4, 520, 255, Wire.address("10.0.0.2") + response("11.0.0.0/8", 21 - last));
            p.put(0, 4, 520, 255, Wire.address("10.0.0.2") + response("11.0.0.0/8", last));
            p.field.ticks(1);
            Probe.due("the last word is " + last, last == 16 ? "NONE" : "11.0.0.0/8 6 via 10.0.0.2 a", p.way(0, "11.0.0.1"));
        }
    }

    /** With jitter one that was sent later may come first. */
    private static void overtaken() {
        Probe p = new Probe();
        p.setUp("link a 1 jitter 4", "router x", "join x a 10.0.0.1/24", "timers x 1000 1000 1000");
        p.field.ticks(3);
        // Numbers 1 and 2 of the link: they come 4 and 2 ticks later.
        p.put(0, 4, 520, 255, Wire.address("10.0.0.2") + response("11.0.0.0/8", 5));
        p.put(0, 4, 520, 255, Wire.address("10.0.0.2") + response("11.0.0.0/8", 9));
        p.field.ticks(1);
        Probe.due("none is there", "NONE", p.way(0, "11.0.0.1"));
        p.field.ticks(1);
        Probe.due("the second", "11.0.0.0/8 10 via 10.0.0.2 a", p.way(0, "11.0.0.1"));
        p.field.ticks(1);
        Probe.due("still", "11.0.0.0/8 10 via 10.0.0.2 a", p.way(0, "11.0.0.1"));
        p.field.ticks(1);
        Probe.due("the first", "11.0.0.0/8 6 via 10.0.0.2 a", p.way(0, "11.0.0.1"));
    }

    /** Datagrams come, then each router has its turn: what came is in the update of the same tick. */
    private static void comeBeforeTurns() {
        Probe p = new Probe();
        p.setUp("link a 1", "link b 1", "router x", "join x a 10.0.0.1/24", "join x b 10.0.1.1/24");
        p.field.ticks(29);
        p.put(0, 4, 520, 255, Wire.address("10.0.0.2") + response("11.0.0.0/8", 5));
        p.field.ticks(1);
        Probe.due("told in its tick", Wire.RESPONSE_4 + Wire.entry("10.0.0.0/24", 0, 1) + Wire.entry("11.0.0.0/8", 0, 6), p.seen(1));
        Probe.due("and changed no more", true, p.show(0, 3).endsWith("11.0.0.0/8 180\n"));
    }

    /** To each running router with an interface there, by number. */
    private static void hearByNumber() {
        Probe p = new Probe();
        p.setUp("link a 1", "router x", "router y", "join y a 10.0.0.2/24", "join x a 10.0.0.1/24 cost 2");
        p.field.ticks(5);
        p.put(0, 4, 520, 255, Wire.address("10.0.0.9") + Wire.REQUEST_4 + Wire.entry("10.0.0.0/24", 0, 9));
        p.field.ticks(1);
        Probe.due("y's answer is the last", Wire.RESPONSE_4 + Wire.entry("10.0.0.0/24", 0, 1), p.seen(0));
        p.field.run(1, false);
        p.field.run(1, true);
        p.field.ticks(5);
        p.put(0, 4, 520, 255, Wire.address("10.0.0.9") + Wire.REQUEST_4 + Wire.entry("10.0.0.0/24", 0, 9));
        p.field.ticks(1);
        Probe.due("whoever started last", Wire.RESPONSE_4 + Wire.entry("10.0.0.0/24", 0, 1), p.seen(0));
    }

    /** Then each running router, by number. */
    private static void turnsByNumber() {
        Probe p = new Probe();
        p.setUp("link a 1", "router x", "router y", "router z", "join z a 10.0.0.3/24", "join y a 10.0.0.2/24",
                "join x a 10.0.0.1/24", "static x 11.0.0.0/8 1", "static y 12.0.0.0/8 1", "static z 13.0.0.0/8 1");
        p.field.ticks(29);
        p.field.lose(0, 2);
        p.field.ticks(1);
        Probe.due("z's is the last: it has heard the others", Wire.RESPONSE_4 + Wire.entry("11.0.0.0/8", 0, 16)
                + Wire.entry("12.0.0.0/8", 0, 16) + Wire.entry("13.0.0.0/8", 0, 1), p.seen(0));
        Probe.due("those of x and y are lost", 1, p.field.flying());
    }

    /** The table is told on all interfaces in order: in the order of their coming. */
    private static void interfacesInOrder() {
        for (String first : new String[] {"a", "b"}) {
            String second = first.equals("a") ? "b" : "a";
            Probe p = new Probe();
            p.setUp("link a 1", "link b 1", "router x", "router y", "timers y 1000 1000 1000", "join y a 10.0.0.2/24", "join y b 10.0.1.2/24");
            String[] network = {first.equals("a") ? "10.0.0" : "10.0.1", first.equals("a") ? "10.0.1" : "10.0.0"};
            p.setUp("join x " + first + " " + network[0] + ".1/24", "join x " + second + " " + network[1] + ".1/24");
            p.field.ticks(5);
            p.setUp("static x 11.0.0.0/8 1");
            p.field.ticks(5);
            Probe.due("y has heard it first on " + first, "11.0.0.0/8 2 via " + network[0] + ".1 " + first, p.way(1, "11.0.0.1"));
        }
    }

    /** For each family, 4 first: tellings, requests, and what is said at the end. */
    private static void familiesInOrder() {
        Probe p = new Probe();
        p.setUp("link a 5", "router x", "join x a fd00::1/64", "join x a 10.0.0.1/24", "static x 11.0.0.0/8 1", "static x 11::/16 1");
        p.field.ticks(29);
        p.field.lose(0, 1);
        p.field.ticks(1);
        Probe.due("the telling of family 6 is the last", Wire.RESPONSE_6 + Wire.entry("11::/16", 0, 1), p.seen(0));
        p.field.run(0, false);
        Probe.due("at the end, too", Wire.RESPONSE_6 + Wire.entry("11::/16", 0, 16) + Wire.entry("fd00::/64", 0, 16), p.seen(0));
        p.field.run(0, true);
        Probe.due("the request of family 6 is the last", Wire.REQUEST_6 + Wire.ALL_6, p.seen(0));
        p.field.link(0, false);
        p.field.link(0, true);
        Probe.due("also when the link comes up", Wire.REQUEST_6 + Wire.ALL_6, p.seen(0));
    }

    /** To all, then to each neighbor of the family, in the order told, before the next family. */
    private static void neighborsInOrder() {
        Probe p = new Probe();
        p.setUp("link a 1", "router x", "router y", "router z", "join x a 10.0.0.1/24 passive", "join y a 10.0.0.2/24",
                "join z a 10.0.0.3/24", "neighbor x a 10.0.0.3", "neighbor x a 10.0.0.2", "timers x 1000 180 120");
        p.field.ticks(9);
        p.field.lose(0, 1);
        p.setUp("static x 11.0.0.0/8 1");
        p.field.ticks(6);
        Probe.due("z is told first, and loses it", "NONE", p.way(2, "11.0.0.1"));
        Probe.due("y is told then", "11.0.0.0/8 2 via 10.0.0.1 a", p.way(1, "11.0.0.1"));
        Probe q = new Probe();
        q.setUp("link a 1", "router x", "join x a 10.0.0.1/24 md5 1 w", "neighbor x a 10.0.0.3", "static x 11.0.0.0/8 1",
                "join x a fd00::1/64", "static x 11::/16 1", "neighbor x a fd00::3");
        q.field.ticks(1);
        Probe.due("six went", 6, q.field.count(0, 5));
        Probe.due("family 6's neighbor is the last", Wire.RESPONSE_6 + Wire.entry("11::/16", 0, 1), q.seen(0));
    }

    /** A link comes up: each such interface asks, by number. */
    private static void askedByNumber() {
        Probe p = new Probe();
        p.setUp("link a 1", "router x", "router y", "join y a 10.0.0.2/24 md5 2 y", "join x a 10.0.0.1/24 md5 1 x");
        p.field.link(0, false);
        p.field.link(0, true);
        Probe.due("y asks last", Wire.md5(Wire.REQUEST_4, 2, "y", 1, Wire.ALL_4), p.seen(0));
        p.field.run(1, false);
        p.field.link(0, false);
        p.field.link(0, true);
        Probe.due("only those that run", Wire.md5(Wire.REQUEST_4, 1, "x", 2, Wire.ALL_4), p.seen(0));
    }

    /** In the order of prefixes: routes, summaries and the default among one another. */
    private static void answersStandInTheOrderOfPrefixes() {
        Probe p = made("static x 9.0.0.0/8 1", "static x 10.5.0.0/16 2", "static x 10.0.0.0/8 3", "static x 11.1.0.0/16 4",
                "static x 11.0.0.0/8 5", "static x 200.0.0.0/8 6", "summary x a 10.4.0.0/14", "summary x a 128.0.0.0/1",
                "default x a 7");
        p.put(0, 4, 520, 255, Wire.address("10.0.0.2") + Wire.REQUEST_4 + Wire.ALL_4);
        p.field.ticks(1);
        Probe.due("in order", Wire.RESPONSE_4 + Wire.entry("0.0.0.0/0", 0, 7) + Wire.entry("9.0.0.0/8", 0, 1)
                + Wire.entry("10.0.0.0/8", 0, 3) + Wire.entry("10.4.0.0/14", 0, 2) + Wire.entry("11.0.0.0/8", 0, 5)
                + Wire.entry("11.1.0.0/16", 0, 4) + Wire.entry("128.0.0.0/1", 0, 6), p.seen(0));
    }
}
