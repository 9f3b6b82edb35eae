/** Promises 6, 7, 9, 11, 17 and 18 at the bounds that time sets: timeouts, garbage, triggers, updates. */
public final class TableEdgesTest {
    public static void main(String[] args) {
        for (int n : new int[] {1, 2, 179, 1000}) {
            timeout(n);
            garbage(n);
            update(n);
        }
        allInOneTick();
        heardAgain();
        backBeforeItGoes();
        dyingAgain();
        goesWithTheTimeOfItsDeath();
        firstUpdates();
        triggerWaits();
        triggersDoneBefore();
        oneTriggerForMany();
        updateInPlaceOfTrigger();
        changesCounted();
        changesOfPlaces();
        dueOnes();
        lapsesWithoutAnything();
        Probe.finish();
    }

    private static final String TWO = Wire.address("10.0.0.2");

    private static Probe made(String... more) {
        Probe p = new Probe();
        p.setUp("link a 1", "link b 1", "router x", "join x a 10.0.0.1/24");
        p.setUp(more);
        p.field.ticks(2);
        return p;
    }

    /** An entry of 11.0.0.0/8 comes to x in the next tick. */
    private static void hear(Probe p, String source, long metric) {
        p.put(0, 4, 520, 255, Wire.address(source) + Wire.RESPONSE_4 + Wire.entry("11.0.0.0/8", 0, metric));
        p.field.ticks(1);
    }

    private static String times(String of11) {
        return "10.0.0.0/24 -\n" + of11;
    }

    /** How many ticks are left to 11.0.0.0/8. */
    private static String left(Probe p) {
        for (String line : p.show(0, 3).split("\n")) {
            if (line.startsWith("11.0.0.0/8 ")) {
                return line.split(" ")[1];
            }
        }
        return "none";
    }

    /** A learned route dies when TIMEOUT ticks have passed since it was set. */
    private static void timeout(int n) {
        Probe p = made("timers x 1000 " + n + " 1000");
        hear(p, "10.0.0.2", 1);
        Probe.due(n + " are left", String.valueOf(n), left(p));
        p.field.ticks(n - 1);
        Probe.due("it lives at " + (n - 1), "11.0.0.0/8 2 via 10.0.0.2 a", p.way(0, "11.0.0.1"));
        Probe.due("one is left", "1", left(p));
        int changes = p.field.count(0, 7);
        p.field.ticks(1);
        Probe.due("it is dying at " + n, "NONE", p.way(0, "11.0.0.1"));
        Probe.due("and there", "1000", left(p));
        Probe.due("which is a change", changes + 1, p.field.count(0, 7));
    }

    /** GARBAGE ticks later the route goes. */
    private static void garbage(int n) {
        Probe p = made("timers x 1000 1000 " + n);
        hear(p, "10.0.0.2", 1);
        hear(p, "10.0.0.2", 16);
        Probe.due(n + " are left", times("11.0.0.0/8 " + n + " changed\n"), p.show(0, 3));
        p.field.ticks(n - 1);
        Probe.due("it is there at " + (n - 1), 2, p.field.routes(0));
        Probe.due("one is left", "1", left(p));
        int changes = p.field.count(0, 7);
        p.field.ticks(1);
        Probe.due("it has gone at " + n, "10.0.0.0/24 -\n", p.show(0, 3));
        Probe.due("which is no change", changes, p.field.count(0, 7));
    }

    /** The table is told, and the time is UPDATE ticks later. */
    private static void update(int n) {
        Probe p = made("static x 12.0.0.0/8 1", "timers x " + n + " 180 120");
        p.field.ticks(27);
        int sent = p.field.count(0, 5);
        p.field.ticks(1);
        Probe.due("at 30 as told at first", sent + 1, p.field.count(0, 5));
        p.field.ticks(n - 1);
        Probe.due("not at " + (29 + n), sent + 1, p.field.count(0, 5));
        p.field.ticks(1);
        Probe.due("at " + (30 + n), sent + 2, p.field.count(0, 5));
        p.field.ticks(n);
        Probe.due("at " + (30 + 2 * n), sent + 3, p.field.count(0, 5));
    }

    /** Its routes in order die by timeout, and go by garbage: all whose time it is, in one tick. */
    private static void allInOneTick() {
        Probe p = made("timers x 1000 20 10");
        StringBuilder entries = new StringBuilder();
        for (int i = 0; i < 5; i++) {
            entries.append(Wire.entry("11." + i + ".0.0/16", 0, 1));
        }
        p.put(0, 4, 520, 255, TWO + Wire.RESPONSE_4 + entries);
        p.field.ticks(1);
        Probe.due("five came", 6, p.field.routes(0));
        p.put(0, 4, 520, 255, TWO + Wire.RESPONSE_4 + Wire.entry("11.2.0.0/16", 0, 1));
        p.field.ticks(19);
        int changes = p.field.count(0, 7);
        p.field.ticks(1);
        Probe.due("four die in one tick", changes + 4, p.field.count(0, 7));
        Probe.due("times", "10.0.0.0/24 -\n11.0.0.0/16 10 changed\n11.1.0.0/16 10 changed\n11.2.0.0/16 1\n"
                + "11.3.0.0/16 10 changed\n11.4.0.0/16 10 changed\n", p.show(0, 3));
        p.field.ticks(1);
        Probe.due("the fifth dies", changes + 5, p.field.count(0, 7));
        p.field.ticks(8);
        Probe.due("all are there", 6, p.field.routes(0));
        p.field.ticks(1);
        Probe.due("four go in one tick", 2, p.field.routes(0));
        p.field.ticks(1);
        Probe.due("then the fifth", 1, p.field.routes(0));
    }

    /** Since it was set or heard again. */
    private static void heardAgain() {
        Probe p = made("timers x 1000 10 50");
        hear(p, "10.0.0.2", 1);
        p.field.ticks(8);
        hear(p, "10.0.0.2", 1);
        Probe.due("heard in its ninth tick", times("11.0.0.0/8 10\n"), p.show(0, 3));
        p.field.ticks(9);
        hear(p, "10.0.0.2", 1);
        // It came in the tick that would have been its last: what comes is heard first.
        Probe.due("heard in its tenth", times("11.0.0.0/8 10\n"), p.show(0, 3));
        p.field.ticks(9);
        Probe.due("lives still", times("11.0.0.0/8 1\n"), p.show(0, 3));
        p.field.ticks(1);
        Probe.due("dies then", times("11.0.0.0/8 50 changed\n"), p.show(0, 3));
    }

    /** It goes if it is still dying: one that came back stays, and dies anew with a new time. */
    private static void backBeforeItGoes() {
        Probe p = made("timers x 1000 100 10");
        hear(p, "10.0.0.2", 1);
        hear(p, "10.0.0.2", 16);
        p.field.ticks(8);
        Probe.due("two are left", times("11.0.0.0/8 2\n"), p.show(0, 3));
        hear(p, "10.0.0.2", 3);
        Probe.due("back in the ninth", times("11.0.0.0/8 100 changed\n"), p.show(0, 3));
        p.field.ticks(20);
        Probe.due("it stays", "11.0.0.0/8 4 via 10.0.0.2 a", p.way(0, "11.0.0.1"));
        hear(p, "10.0.0.2", 16);
        p.field.ticks(9);
        hear(p, "10.0.0.3", 5);
        Probe.due("back in the tenth, from another", "11.0.0.0/8 6 via 10.0.0.3 a", p.way(0, "11.0.0.1"));
        hear(p, "10.0.0.3", 16);
        p.field.ticks(9);
        Probe.due("dying with a new time", times("11.0.0.0/8 1\n"), p.show(0, 3));
        p.field.ticks(1);
        Probe.due("gone", 1, p.field.routes(0));
        hear(p, "10.0.0.3", 16);
        Probe.due("16 brings none back", 1, p.field.routes(0));
        hear(p, "10.0.0.3", 14);
        Probe.due("15 does", "11.0.0.0/8 15 via 10.0.0.3 a", p.way(0, "11.0.0.1"));
    }

    /** To die is nothing for one that is dying. */
    private static void dyingAgain() {
        Probe p = made("timers x 1000 100 50", "static x 12.0.0.0/8 1");
        hear(p, "10.0.0.2", 1);
        hear(p, "10.0.0.2", 16);
        p.setUp("nostatic x 12.0.0.0/8");
        p.field.ticks(9);
        int changes = p.field.count(0, 7);
        hear(p, "10.0.0.2", 16);
        hear(p, "10.0.0.3", 16);
        p.field.link(0, false);
        Probe.due("one change, of the connected one", changes + 1, p.field.count(0, 7));
        Probe.due("the others' time goes on", "10.0.0.0/24 50 changed\n11.0.0.0/8 39\n12.0.0.0/8 39\n", p.show(0, 3));
    }

    /** Timers hold for what begins from now on: a death keeps the GARBAGE of its time. */
    private static void goesWithTheTimeOfItsDeath() {
        Probe p = made("timers x 1000 100 50");
        hear(p, "10.0.0.2", 1);
        hear(p, "10.0.0.2", 16);
        p.setUp("timers x 1000 5 3");
        Probe.due("50 as before", times("11.0.0.0/8 50 changed\n"), p.show(0, 3));
        hear(p, "10.0.0.2", 1);
        Probe.due("a new timeout", "5", left(p));
        p.setUp("timers x 1000 500 4");
        p.field.ticks(4);
        Probe.due("it keeps it", "1", left(p));
        p.field.ticks(1);
        Probe.due("and a new garbage", "4", left(p));
    }

    /** The update time of a new router, and of one that starts, is UPDATE later. */
    private static void firstUpdates() {
        Probe p = new Probe();
        p.setUp("link a 1");
        p.field.ticks(7);
        p.setUp("router x", "join x a 10.0.0.1/24", "static x 12.0.0.0/8 1");
        p.field.ticks(29);
        Probe.due("a request and a trigger till 36", 2, p.field.count(0, 5));
        p.field.ticks(1);
        Probe.due("at 37", 3, p.field.count(0, 5));
        p.field.ticks(5);
        p.field.run(0, false);
        p.field.ticks(50);
        p.setUp("timers x 10 180 120");
        p.field.run(0, true);
        int sent = p.field.count(0, 5);
        p.field.ticks(9);
        Probe.due("a trigger, no update", sent + 1, p.field.count(0, 5));
        p.field.ticks(1);
        Probe.due("10 later", sent + 2, p.field.count(0, 5));
    }

    /** Now + 1 + (the router's number) modulo 5. */
    private static void triggerWaits() {
        for (int r = 0; r < 6; r++) {
            Probe p = new Probe();
            p.setUpMany(6, "router r%d");
            p.field.ticks(4);
            p.setUp("static r" + r + " 12.0.0.0/8 1");
            p.field.ticks(r % 5);
            Probe.due("router " + r + ": not yet", 0, p.field.count(r, 6));
            Probe.due("changed", "12.0.0.0/8 - changed\n", p.show(r, 3));
            p.field.ticks(1);
            Probe.due("router " + r + ": now", 1, p.field.count(r, 6));
            Probe.due("changed no more", "12.0.0.0/8 -\n", p.show(r, 3));
        }
    }

    /** And triggers that it has done, modulo 5. */
    private static void triggersDoneBefore() {
        Probe p = new Probe();
        p.setUp("router w", "router x", "timers x 1000 180 120");
        p.field.ticks(30);
        for (int done = 0; done < 11; done++) {
            p.setUp("static x 12.0.0.0/8 " + (1 + done));
            p.field.ticks((1 + done) % 5);
            Probe.due("of " + done + ": not yet", done, p.field.count(1, 6));
            p.field.ticks(1);
            Probe.due("of " + done + ": now", done + 1, p.field.count(1, 6));
        }
        Probe.due("the other has done none", 0, p.field.count(0, 6));
    }

    /** Set when a route changes and none is set: later changes don't move it. */
    private static void oneTriggerForMany() {
        Probe p = new Probe();
        p.setUp("link a 1", "router w", "router v", "router u", "router x", "join x a 10.0.0.1/24");
        p.field.ticks(3);
        p.setUp("static x 12.0.0.0/8 1");
        Probe.due("none is done", 0, p.field.count(3, 6));
        p.field.ticks(1);
        Probe.due("both in one", 1, p.field.count(3, 6));
        Probe.due("told", Wire.RESPONSE_4 + Wire.entry("12.0.0.0/8", 0, 1), p.seen(0));
        Probe.due("nothing is changed", "10.0.0.0/24 -\n12.0.0.0/8 -\n", p.show(3, 3));
        p.field.ticks(20);
        Probe.due("no more", 1, p.field.count(3, 6));
    }

    /** If its UPDATE time is there, no trigger is set any more; else the trigger is done. */
    private static void updateInPlaceOfTrigger() {
        for (int late = -1; late <= 1; late++) {
            Probe p = new Probe();
            p.setUp("router x");
            p.field.ticks(29 + late);
            p.setUp("static x 12.0.0.0/8 1");
            p.field.ticks(1);
            Probe.due("a trigger at " + (30 + late), late == 0 ? 0 : 1, p.field.count(0, 6));
            Probe.due("is told in any case", "12.0.0.0/8 -\n", p.show(0, 3));
            p.field.ticks(10);
            Probe.due("no trigger is left", late == 0 ? 0 : 1, p.field.count(0, 6));
        }
    }

    /** Changed when it comes, or its metric, gateway, interface (of a static one its tag) become others. */
    private static void changesCounted() {
        Probe p = made("timers x 1000 1000 1000");
        int[] want = {p.field.count(0, 7)};
        String[][] entries = {{"10.0.0.2", "1", "0.0.0.0", "1"}, {"10.0.0.2", "1", "0.0.0.0", "0"},
            {"10.0.0.2", "2", "0.0.0.0", "1"}, {"10.0.0.2", "2", "10.0.0.3", "1"}, {"10.0.0.2", "2", "10.0.0.3", "0"},
            {"10.0.0.2", "1", "0.0.0.0", "1"}, {"10.0.0.2", "16", "10.0.0.3", "1"}, {"10.0.0.2", "16", "0.0.0.0", "0"},
            {"10.0.0.3", "15", "0.0.0.0", "0"}, {"10.0.0.3", "14", "0.0.0.0", "1"}, {"10.0.0.2", "13", "10.0.0.3", "1"}};
        for (String[] one : entries) {
            p.put(0, 4, 520, 255, Wire.address(one[0]) + Wire.RESPONSE_4
                    + Wire.entry("11.0.0.0/8", want[0], one[2], Long.parseLong(one[1])));
            p.field.ticks(1);
            want[0] += Integer.parseInt(one[3]);
            Probe.due("metric " + one[1] + " of " + one[0] + " by " + one[2], want[0], p.field.count(0, 7));
        }
        String[][] statics = {{"1", "1"}, {"1", "0"}, {"1 tag 0", "0"}, {"1 tag 1", "1"}, {"1 tag 1", "0"}, {"2 tag 1", "1"},
            {"2", "1"}, {"3 tag 3", "1"}};
        for (String[] one : statics) {
            p.setUp("static x 12.0.0.0/8 " + one[0]);
            want[0] += Integer.parseInt(one[1]);
            Probe.due("static " + one[0], want[0], p.field.count(0, 7));
        }
        p.setUp("nostatic x 12.0.0.0/8");
        Probe.due("its death", want[0] + 1, p.field.count(0, 7));
        p.setUp("static x 12.0.0.0/8 3 tag 3");
        Probe.due("its coming back", want[0] + 2, p.field.count(0, 7));
        p.setUp("redistribute x static 5 tag 6", "filter x out 12.0.0.0/8 deny", "timers x 1000 10 10", "default x a 5");
        Probe.due("no other line is a change", want[0] + 2, p.field.count(0, 7));
    }

    /** The one that is due takes the place of what is there. */
    private static void changesOfPlaces() {
        Probe p = made("timers x 1000 1000 100");
        p.put(0, 4, 520, 255, TWO + Wire.RESPONSE_4 + Wire.entry("10.0.1.0/24", 7, 1));
        p.field.ticks(6);
        int changes = p.field.count(0, 7);
        Probe.due("learned", "10.0.1.0/24 2 via 10.0.0.2 a", p.way(0, "10.0.1.1"));
        p.setUp("static x 10.0.1.0/24 2");
        Probe.due("static", "10.0.1.0/24 2 static", p.way(0, "10.0.1.1"));
        Probe.due("of the same metric is a change", changes + 1, p.field.count(0, 7));
        p.setUp("join x b 10.0.1.9/24 cost 2");
        Probe.due("connected", "10.0.1.0/24 2 direct b", p.way(0, "10.0.1.1"));
        Probe.due("of the same metric is a change", changes + 2, p.field.count(0, 7));
        p.setUp("static x 10.0.1.0/24 1 tag 4", "nostatic x 10.0.1.0/24", "static x 10.0.1.0/24 9 tag 5");
        Probe.due("statics below it are none", changes + 2, p.field.count(0, 7));
        p.setUp("join x b fd00::1/64 cost 3");
        Probe.due("another cost", "10.0.1.0/24 3 direct b", p.way(0, "10.0.1.1"));
        Probe.due("is a change, besides the coming of fd00::/64", changes + 4, p.field.count(0, 7));
        p.field.link(1, false);
        Probe.due("static again", "10.0.1.0/24 9 static", p.way(0, "10.0.1.1"));
        Probe.due("and the death of fd00::/64", changes + 6, p.field.count(0, 7));
        p.setUp("nostatic x 10.0.1.0/24");
        Probe.due("none is due", true, p.show(0, 0).contains("10.0.1.0/24 16 via 0.0.0.0 -\n"));
        Probe.due("it dies", changes + 7, p.field.count(0, 7));
        p.field.link(1, true);
        Probe.due("connected again", "10.0.1.0/24 3 direct b", p.way(0, "10.0.1.1"));
    }

    /** Of connected ones of one network the interface that came first. */
    private static void dueOnes() {
        Probe p = new Probe();
        p.setUp("link a 1", "link b 1", "router x", "join x b 10.0.0.1/24 cost 5", "join x a 10.0.0.2/24 cost 2");
        Probe.due("b came first", "10.0.0.0/24 5 direct b", p.way(0, "10.0.0.9"));
        Probe.due("one change", 1, p.field.count(0, 7));
        p.field.link(0, false);
        Probe.due("a says nothing", 1, p.field.count(0, 7));
        p.field.link(0, true);
        p.field.link(1, false);
        Probe.due("now a", "10.0.0.0/24 2 direct a", p.way(0, "10.0.0.9"));
        p.field.link(1, true);
        Probe.due("b again", "10.0.0.0/24 5 direct b", p.way(0, "10.0.0.9"));
        p.setUp("join x b ::1/0", "join x a fd00::1/24");
        Probe.due("of another length is another network", "fd00::/24 2 direct a", p.way(0, "fd00::9"));
        Probe.due("of length 0", "::/0 5 direct b", p.way(0, "1::"));
    }

    /** What dies is learned then: no tag, no gateway, no interface, heard from nobody. */
    private static void lapsesWithoutAnything() {
        Probe p = made("static x 11.0.0.0/8 3 tag 9", "timers x 1000 100 50");
        p.field.ticks(1);
        p.setUp("nostatic x 11.0.0.0/8");
        Probe.due("dying", "10.0.0.0/24 1 direct a\n11.0.0.0/8 16 via 0.0.0.0 -\n", p.show(0, 0));
        p.field.ticks(3);
        Probe.due("told without its tag", Wire.RESPONSE_4 + Wire.entry("11.0.0.0/8", 0, 16), p.seen(0));
        hear(p, "0.0.0.0", 1);
        Probe.due("0 is no source", 1, p.field.count(0, 1));
        p.field.link(0, false);
        Probe.due("and no interface's", true, p.show(0, 3).endsWith("11.0.0.0/8 46\n"));
        p.field.ticks(45);
        Probe.due("it is there", true, p.show(0, 0).endsWith("11.0.0.0/8 16 via 0.0.0.0 -\n"));
        p.field.ticks(1);
        Probe.due("and goes", "10.0.0.0/24 4\n", p.show(0, 3));
    }
}
