/** Promises 6 and 20: ticks, and what a tick brings: triggers, updates, timeouts, garbage. */
public final class TicksTest {
    public static void main(String[] args) {
        bounds();
        triggersAndUpdates();
        timeouts();
        timersHoldFromThen();
        triggerWaits();
        Probe.finish();
    }

    private static void bounds() {
        Probe p = new Probe();
        Probe.due("0 ticks", 0, p.field.ticks(0));
        Probe.due("-1 ticks", -1, p.field.ticks(-1));
        Probe.due("2001 ticks", -1, p.field.ticks(2001));
        Probe.due("many ticks", -1, p.field.ticks(Integer.MAX_VALUE));
        Probe.due("few ticks", -1, p.field.ticks(Integer.MIN_VALUE));
        Probe.due("now", 0, p.field.now());
        for (int i = 1; i <= 9; i++) {
            Probe.due("2000 ticks", 2000 * i, p.field.ticks(2000));
        }
        Probe.due("1999 ticks", 19999, p.field.ticks(1999));
        Probe.due("beyond the end", -1, p.field.ticks(2));
        Probe.due("now", 19999, p.field.now());
        Probe.due("to the end", 20000, p.field.ticks(1));
        Probe.due("behind the end", -1, p.field.ticks(1));
        Probe.due("0 ticks at the end", 20000, p.field.ticks(0));
    }

    private static Probe two() {
        Probe p = new Probe();
        p.setUp("link a 1", "router x", "router y", "join x a 10.0.0.1/24", "join y a 10.0.0.2/24",
                "static x 10.5.0.0/16 2 tag 7");
        return p;
    }

    private static void triggersAndUpdates() {
        Probe p = two();
        Probe.due("requests", Wire.REQUEST_4 + Wire.ALL_4, p.seen(0));
        Probe.due("two on their way", 2, p.field.flying());
        Probe.due("changes of x", 2, p.field.count(0, 7));
        Probe.due("x at 0", "10.0.0.0/24 - changed\n10.5.0.0/16 - changed\n", p.show(0, 3));
        p.field.ticks(1);
        Probe.due("x has told its trigger", Wire.RESPONSE_4 + Wire.entry("10.5.0.0/16", 7, 2), p.seen(0));
        Probe.due("a request, an answer, a trigger", 3, p.field.count(0, 5));
        Probe.due("triggers of x", 1, p.field.count(0, 6));
        Probe.due("x at 1", "10.0.0.0/24 -\n10.5.0.0/16 -\n", p.show(0, 3));
        Probe.due("y at 1", "10.0.0.0/24 - changed\n", p.show(1, 3));
        p.field.ticks(1);
        Probe.due("y at 2", "10.0.0.0/24 1 direct a\n10.5.0.0/16 3 via 10.0.0.1 a\n", p.show(1, 0));
        Probe.due("y poisons", Wire.RESPONSE_4 + Wire.entry("10.5.0.0/16", 7, 16), p.seen(0));
        Probe.due("triggers of y", 1, p.field.count(1, 6));
        Probe.due("times of y at 2", "10.0.0.0/24 -\n10.5.0.0/16 180\n", p.show(1, 3));
        p.field.ticks(27);
        Probe.due("nothing new till 29", 3, p.field.count(0, 5));
        Probe.due("y at 29", "10.0.0.0/24 -\n10.5.0.0/16 153\n", p.show(1, 3));
        p.field.ticks(1);
        Probe.due("x told its table at 30", 4, p.field.count(0, 5));
        Probe.due("y, too", 3, p.field.count(1, 5));
        p.field.ticks(1);
        Probe.due("y at 31", "10.0.0.0/24 -\n10.5.0.0/16 180\n", p.show(1, 3));
        p.field.ticks(28);
        Probe.due("nothing new till 59", 4, p.field.count(0, 5));
        p.field.ticks(1);
        Probe.due("x at 60", 5, p.field.count(0, 5));
    }

    private static void timeouts() {
        Probe p = two();
        p.field.ticks(31);
        p.field.lose(0, 100000);
        p.field.ticks(179);
        Probe.due("y at 210", "10.0.0.0/24 -\n10.5.0.0/16 1\n", p.show(1, 3));
        int changes = p.field.count(1, 7);
        p.field.ticks(1);
        Probe.due("it dies at 211", "10.0.0.0/24 -\n10.5.0.0/16 120 changed\n", p.show(1, 3));
        Probe.due("with its way", "10.0.0.0/24 1 direct a\n10.5.0.0/16 16 via 10.0.0.1 a\n", p.show(1, 0));
        Probe.due("one change", changes + 1, p.field.count(1, 7));
        p.field.ticks(2);
        Probe.due("trigger at 211 + 1 + (1 + 1)", 1, p.field.count(1, 6));
        p.field.ticks(1);
        Probe.due("is done at 214", 2, p.field.count(1, 6));
        Probe.due("told", "10.0.0.0/24 -\n10.5.0.0/16 117\n", p.show(1, 3));
        p.field.ticks(116);
        Probe.due("routes at 330", 2, p.field.routes(1));
        p.field.ticks(1);
        Probe.due("it goes at 331", 1, p.field.routes(1));
        Probe.due("which is no change", changes + 1, p.field.count(1, 7));
    }

    private static void timersHoldFromThen() {
        Probe p = two();
        p.field.ticks(2);
        p.setUp("timers y 5 7 3");
        Probe.due("what began keeps its time", "10.0.0.0/24 -\n10.5.0.0/16 180\n", p.show(1, 3));
        p.field.ticks(27);
        int sent = p.field.count(1, 5);
        p.field.ticks(1);
        Probe.due("the update time is as before", sent + 1, p.field.count(1, 5));
        p.field.ticks(1);
        Probe.due("heard again", "10.0.0.0/24 -\n10.5.0.0/16 7\n", p.show(1, 3));
        p.field.ticks(4);
        Probe.due("the next update", sent + 2, p.field.count(1, 5));
        p.field.ticks(3);
        Probe.due("dead at 38", "10.0.0.0/24 -\n10.5.0.0/16 3 changed\n", p.show(1, 3));
        p.field.ticks(3);
        Probe.due("gone at 41", 1, p.field.routes(1));
    }

    private static void triggerWaits() {
        Probe p = new Probe();
        for (int i = 0; i < 6; i++) {
            p.setUp("router r" + i);
        }
        p.setUp("static r3 10.0.0.0/8 1", "static r5 10.0.0.0/8 1");
        p.field.ticks(1);
        Probe.due("5 + 0 modulo 5", 1, p.field.count(5, 6));
        p.field.ticks(2);
        Probe.due("3 + 0: not yet", 0, p.field.count(3, 6));
        p.field.ticks(1);
        Probe.due("3 + 0", 1, p.field.count(3, 6));
        p.setUp("static r3 10.0.0.0/8 2");
        p.field.ticks(4);
        Probe.due("3 + 1: not yet", 1, p.field.count(3, 6));
        p.setUp("static r3 10.0.0.0/8 3");
        p.field.ticks(1);
        Probe.due("3 + 1", 2, p.field.count(3, 6));
        p.setUp("static r3 10.0.0.0/8 4");
        p.field.ticks(1);
        Probe.due("3 + 2 modulo 5", 3, p.field.count(3, 6));
        p.field.ticks(18);
        p.setUp("static r3 10.0.0.0/8 5");
        p.field.ticks(1);
        Probe.due("now", 29, p.field.now());
        p.setUp("static r3 10.0.0.0/8 6");
        p.field.ticks(1);
        Probe.due("an update takes the trigger's place", 3, p.field.count(3, 6));
        Probe.due("nothing is changed any more", "10.0.0.0/8 -\n", p.show(3, 3));
        p.field.ticks(10);
        Probe.due("no trigger is left", 3, p.field.count(3, 6));
        Probe.due("changes", 6, p.field.count(3, 7));
        p.setUp("static r3 10.0.0.0/8 6");
        Probe.due("the same again is no change", 6, p.field.count(3, 7));
        p.setUp("static r3 10.0.0.0/8 6 tag 1");
        Probe.due("another tag is one", 7, p.field.count(3, 7));
    }
}
