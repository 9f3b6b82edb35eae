/** Promises 7, 8 and 19: link, lose, flying. */
public final class LinkTest {
    public static void main(String[] args) {
        answers();
        downAndUp();
        dueOnes();
        loses();
        otherLinks();
        askedOnUp();
        dyingOnes();
        order();
        Probe.finish();
    }

    private static void answers() {
        Probe p = new Probe();
        p.setUp("link a 1", "link b 1");
        Probe.due("it is up", false, p.field.link(1, true));
        Probe.due("down", true, p.field.link(1, false));
        Probe.due("it is down", false, p.field.link(1, false));
        Probe.due("up", true, p.field.link(1, true));
        Probe.due("none", false, p.field.link(2, false));
        Probe.due("none below 0", false, p.field.link(-1, false));
        Probe.due("lose", true, p.field.lose(1, 0));
        Probe.due("lose below 0", false, p.field.lose(1, -1));
        Probe.due("lose on none", false, p.field.lose(2, 1));
        Probe.due("lose on none below 0", false, p.field.lose(-1, 1));
    }

    private static void downAndUp() {
        Probe p = new Probe();
        p.setUp("link a 2", "link b 1", "router x", "router y", "join x a 10.0.0.1/24", "join y a 10.0.0.2/24",
                "join y a fd00::2/64", "join x b 10.0.1.1/24 cost 2", "static y 10.5.0.0/16 1", "static y 10.0.0.0/24 9");
        p.field.ticks(10);
        Probe.due("x", "10.0.0.0/24 1 direct a\n10.0.1.0/24 2 direct b\n10.5.0.0/16 2 via 10.0.0.2 a\n", p.show(0, 0));
        p.field.ticks(20);
        Probe.due("x told on a and b, y on a", 3, p.field.flying());
        int changes = p.field.count(0, 7);
        p.field.link(0, false);
        Probe.due("all on it are lost, the one on b is not", 1, p.field.flying());
        Probe.due("x without a", "10.0.0.0/24 16 via 0.0.0.0 -\n10.0.1.0/24 2 direct b\n"
                + "10.5.0.0/16 16 via 10.0.0.2 a\n", p.show(0, 0));
        Probe.due("its times", "10.0.0.0/24 120 changed\n10.0.1.0/24 -\n10.5.0.0/16 120 changed\n", p.show(0, 3));
        Probe.due("its changes", changes + 2, p.field.count(0, 7));
        Probe.due("the static one takes the place", "10.0.0.0/24 9 static\n10.0.1.0/24 16 via 10.0.0.1 a\n"
                + "10.5.0.0/16 1 static\nfd00::/64 16 via :: -\n", p.show(1, 0));
        int sent = p.field.count(0, 5);
        int sentByY = p.field.count(1, 5);
        p.field.ticks(40);
        Probe.due("nothing goes on it", sentByY, p.field.count(1, 5));
        sent = p.field.count(0, 5);
        p.field.link(0, true);
        Probe.due("x with a", "10.0.0.0/24 1 direct a\n10.0.1.0/24 2 direct b\n"
                + "10.5.0.0/16 16 via 10.0.0.2 a\n", p.show(0, 0));
        Probe.due("y with a", "10.0.0.0/24 1 direct a\n10.0.1.0/24 16 via 10.0.0.1 a\n"
                + "10.5.0.0/16 1 static\nfd00::/64 1 direct a\n", p.show(1, 0));
        Probe.due("a request of x", sent + 1, p.field.count(0, 5));
        Probe.due("two of y", sentByY + 2, p.field.count(1, 5));
        Probe.due("the last one of family 6", Wire.REQUEST_6 + Wire.ALL_6, p.seen(0));
        Probe.due("three on their way", 3, p.field.flying());
        p.field.ticks(4);
        Probe.due("x has heard y again", "10.5.0.0/16 2 via 10.0.0.2 a", p.way(0, "10.5.1.1"));
        p.field.run(1, false);
        p.field.ticks(5);
        p.field.link(0, false);
        int of = p.field.count(1, 5);
        p.field.link(0, true);
        Probe.due("a router that stands still says nothing", of, p.field.count(1, 5));
        Probe.due("and has no routes", 0, p.field.routes(1));
    }

    /** The k-th comes DELAY + 3 k modulo (J + 1) ticks later. */
    private static void dueOnes() {
        Probe p = new Probe();
        p.setUp("link a 2 jitter 4", "router x", "join x a 10.0.0.1/24");
        // The request was number 0; these are 1 .. 5: 3, 1, 4, 2, 0 ticks more.
        for (int i = 1; i <= 5; i++) {
            Probe.due("put", true, p.put(0, 4, 520, 255, Wire.address("10.0.0." + (i + 1)) + "00"));
        }
        int[] came = {0, 1, 2, 3, 4, 5};
        Probe.due("flying", 6, p.field.flying());
        for (int i = 0; i < came.length; i++) {
            p.field.ticks(1);
            Probe.due("came at " + (i + 1), came[i], p.field.count(0, 0));
            Probe.due("flying at " + (i + 1), i == 0 ? 6 : 5 - came[i], p.field.flying());
        }
    }

    private static void loses() {
        Probe p = new Probe();
        p.setUp("link a 1", "router x", "router y", "join x a 10.0.0.1/24", "join y a 10.0.0.2/24");
        p.field.ticks(5);
        p.field.lose(0, 5);
        p.field.lose(0, 1);
        int sent = p.field.count(0, 5);
        p.setUp("static x 10.5.0.0/16 1");
        p.field.ticks(2);
        Probe.due("sent", sent + 1, p.field.count(0, 5));
        Probe.due("it is lost", 1, p.field.routes(1));
        Probe.due("but seen", Wire.RESPONSE_4 + Wire.entry("10.5.0.0/16", 0, 1), p.seen(0));
        p.setUp("static x 10.6.0.0/16 1");
        p.field.ticks(4);
        Probe.due("the next one is not", "10.6.0.0/16 2 via 10.0.0.1 a", p.way(1, "10.6.0.1"));
        p.field.lose(0, 3);
        p.put(0, 4, 520, 255, Wire.address("10.0.0.9") + Wire.RESPONSE_4 + Wire.entry("10.7.0.0/16", 0, 1));
        p.field.ticks(1);
        Probe.due("what is put is not lost by being told to", "10.7.0.0/16 2 via 10.0.0.9 a", p.way(1, "10.7.0.1"));
        p.field.lose(0, 0);
        p.setUp("static x 10.8.0.0/16 1");
        p.field.ticks(6);
        Probe.due("0 in place of what was told", "10.8.0.0/16 2 via 10.0.0.1 a", p.way(1, "10.8.0.1"));
    }

    /** Only what is on the link, or was heard on it, is lost. */
    private static void otherLinks() {
        Probe p = new Probe();
        p.setUp("link a 3", "link b 3", "router x", "join x a 10.0.0.1/24", "join x b 10.0.1.1/24", "timers x 1000 500 50");
        p.field.ticks(6);
        Probe.due("quiet", 0, p.field.flying());
        p.put(1, 4, 520, 255, Wire.address("10.0.1.2") + Wire.RESPONSE_4 + Wire.entry("7.0.0.0/8", 0, 1));
        p.put(0, 4, 520, 255, Wire.address("10.0.0.2") + Wire.RESPONSE_4 + Wire.entry("8.0.0.0/8", 0, 1));
        p.put(1, 4, 520, 255, Wire.address("10.0.1.2") + Wire.RESPONSE_4 + Wire.entry("9.0.0.0/8", 0, 1));
        p.field.link(0, false);
        p.field.ticks(3);
        Probe.due("those on b came", "7.0.0.0/8 2 via 10.0.1.2 b\n9.0.0.0/8 2 via 10.0.1.2 b\n"
                + "10.0.0.0/24 16 via 0.0.0.0 -\n10.0.1.0/24 1 direct b\n", p.show(0, 0));
        p.field.link(0, true);
        p.put(0, 4, 520, 255, Wire.address("10.0.0.2") + Wire.RESPONSE_4 + Wire.entry("6.0.0.0/8", 0, 1));
        p.field.ticks(3);
        p.field.link(0, false);
        Probe.due("those heard on a die", "6.0.0.0/8 16 via 10.0.0.2 a\n7.0.0.0/8 2 via 10.0.1.2 b\n"
                + "9.0.0.0/8 2 via 10.0.1.2 b\n10.0.0.0/24 16 via 0.0.0.0 -\n10.0.1.0/24 1 direct b\n", p.show(0, 0));
    }

    /** What is asked when a link comes up is answered, in both families. */
    private static void askedOnUp() {
        Probe p = new Probe();
        p.setUp("link a 1", "router x", "router y", "join x a 10.0.0.1/24", "join x a fd00::1/64", "join y a 10.0.0.2/24",
                "join y a fd00::2/64", "static y 11.0.0.0/8 1", "static y 11::/16 1", "timers x 1000 1000 10",
                "timers y 1000 1000 10");
        p.field.ticks(10);
        p.field.link(0, false);
        p.field.ticks(20);
        Probe.due("all died", 0, p.field.routes(0));
        p.field.link(0, true);
        p.field.ticks(2);
        Probe.due("all are back", 4, p.field.routes(0));
        p.field.run(0, false);
        p.field.ticks(20);
        p.field.run(0, true);
        p.field.ticks(2);
        Probe.due("also behind a start", 4, p.field.routes(0));
    }

    /** To die is nothing for one that is dying; an interface in place of another is a change. */
    private static void dyingOnes() {
        Probe p = new Probe();
        p.setUp("link a 1", "link b 1", "router x", "join x a 10.0.0.1/24", "join x b 10.0.0.2/24", "timers x 1000 5 50");
        p.put(0, 4, 520, 255, Wire.address("10.0.0.9") + Wire.RESPONSE_4 + Wire.entry("9.0.0.0/8", 0, 1));
        p.field.ticks(16);
        Probe.due("it died at 6", "9.0.0.0/8 40\n10.0.0.0/24 -\n", p.show(0, 3));
        int changes = p.field.count(0, 7);
        p.field.link(0, false);
        Probe.due("it is no change", "9.0.0.0/8 40\n10.0.0.0/24 - changed\n", p.show(0, 3));
        Probe.due("the interface is", changes + 1, p.field.count(0, 7));
        Probe.due("b's", "10.0.0.0/24 1 direct b", p.way(0, "10.0.0.1"));
    }

    /** Datagrams of one tick come in the order of their sending, also over links. */
    private static void order() {
        Probe p = new Probe();
        p.setUp("link a 2", "link b 1", "router x", "join x a 10.0.0.1/24", "join x b 10.0.1.1/24");
        p.field.ticks(3);
        p.put(0, 4, 520, 255, Wire.address("10.0.0.9") + Wire.RESPONSE_4 + Wire.entry("10.7.0.0/16", 0, 1));
        p.field.ticks(1);
        p.put(1, 4, 520, 255, Wire.address("10.0.1.9") + Wire.RESPONSE_4 + Wire.entry("10.7.0.0/16", 0, 1));
        p.field.ticks(1);
        Probe.due("the first sent came first", "10.7.0.0/16 2 via 10.0.0.9 a", p.way(0, "10.7.0.1"));
        Probe.due("both came", 2, p.field.count(0, 0));
    }
}
