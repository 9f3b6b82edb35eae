/** Promise 9: run, a router stops and starts. */
public final class RunTest {
    public static void main(String[] args) {
        answers();
        stops();
        stopsQuietly();
        starts();
        standsStill();
        triggerIsForgotten();
        Probe.finish();
    }

    private static void answers() {
        Probe p = new Probe();
        p.setUp("router x");
        Probe.due("it runs", false, p.field.run(0, true));
        Probe.due("stop", true, p.field.run(0, false));
        Probe.due("it stands", false, p.field.run(0, false));
        Probe.due("start", true, p.field.run(0, true));
        Probe.due("none", false, p.field.run(1, false));
        Probe.due("none below 0", false, p.field.run(-1, false));
    }

    private static Probe made() {
        Probe p = new Probe();
        p.setUp("link a 1", "link b 1", "router x", "join x a 10.0.0.1/24 cost 3", "join x b fd00::1/64",
                "static x 10.5.0.0/16 2 tag 9", "redistribute x connected off", "redistribute x static 4 tag 5",
                "filter x out 10.5.0.0/16 deny", "summary x a 10.0.0.0/8", "default x a 3 only", "list n deny ::/0",
                "distribute x out * n", "router y", "join y a 10.0.0.2/24", "join y b fd00::2/64");
        p.field.ticks(5);
        p.put(0, 4, 520, 255, Wire.address("10.0.0.2") + Wire.RESPONSE_4 + Wire.entry("10.6.0.0/16", 8, 1));
        p.field.ticks(6);
        return p;
    }

    private static void stops() {
        Probe p = made();
        int sent = p.field.count(0, 5);
        Probe.due("routes", 4, p.field.routes(0));
        p.field.run(0, false);
        Probe.due("all with 16 and their tags, on a", Wire.RESPONSE_4 + Wire.entry("10.0.0.0/24", 0, 16)
                + Wire.entry("10.5.0.0/16", 9, 16) + Wire.entry("10.6.0.0/16", 8, 16), p.seen(0));
        Probe.due("on b", Wire.RESPONSE_6 + Wire.entry("fd00::/64", 0, 16), p.seen(1));
        Probe.due("two datagrams", sent + 2, p.field.count(0, 5));
        Probe.due("no routes", 0, p.field.routes(0));
        Probe.due("an empty text", "", p.show(0, 0));
        Probe.due("no way", "NONE", p.way(0, "10.0.0.1"));
        int came = p.field.count(0, 0);
        int triggers = p.field.count(0, 6);
        p.setUp("static x 10.8.0.0/16 1");
        p.field.ticks(100);
        Probe.due("nothing comes", came, p.field.count(0, 0));
        Probe.due("nothing goes", sent + 2, p.field.count(0, 5));
        Probe.due("no trigger", triggers, p.field.count(0, 6));
        Probe.due("still no routes", 0, p.field.routes(0));
    }

    /** Passive keeps back what goes to all; neighbors are told. */
    private static void stopsQuietly() {
        Probe p = new Probe();
        p.setUp("link a 1", "router x", "join x a 10.0.0.1/24 passive", "join x a fd00::1/64");
        int sent = p.field.count(0, 5);
        p.field.run(0, false);
        Probe.due("passive", sent, p.field.count(0, 5));
        p.field.run(0, true);
        p.setUp("neighbor x a fd00::2", "neighbor x a fd00::3", "neighbor x a 10.0.0.2");
        sent = p.field.count(0, 5);
        p.field.run(0, false);
        Probe.due("three neighbors", sent + 3, p.field.count(0, 5));
        Probe.due("family 6 last", Wire.RESPONSE_6 + Wire.entry("fd00::/64", 0, 16), p.seen(0));
    }

    /** Lines told to a router that stands still, or about a link that is down, send nothing. */
    private static void standsStill() {
        Probe p = new Probe();
        p.setUp("link a 1", "link b 1", "router x");
        p.field.link(1, false);
        p.setUp("join x b 10.0.1.1/24");
        Probe.due("no request on b", 0, p.field.seen(1));
        Probe.due("no route", 0, p.field.routes(0));
        p.field.run(0, false);
        p.setUp("join x a 10.0.0.1/24", "static x 10.5.0.0/16 1");
        Probe.due("no request on a", 0, p.field.seen(0));
        Probe.due("no routes", 0, p.field.routes(0));
        p.setUp("nostatic x 10.5.0.0/16", "static x 10.6.0.0/16 1");
        p.field.run(0, true);
        Probe.due("routes then", "10.0.0.0/24 1 direct a\n10.6.0.0/16 1 static\n", p.show(0, 0));
        Probe.due("a request on a", 24, p.field.seen(0));
        Probe.due("none on b", 0, p.field.seen(1));
        Probe.due("one sent", 1, p.field.count(0, 5));
    }

    private static void triggerIsForgotten() {
        Probe p = new Probe();
        p.setUp("router w", "router v", "router u", "router x", "static x 10.5.0.0/16 1");
        p.field.ticks(3);
        p.field.run(3, false);
        p.field.run(3, true);
        p.field.ticks(3);
        Probe.due("the trigger of before", 0, p.field.count(3, 6));
        p.field.ticks(1);
        Probe.due("that of the start", 1, p.field.count(3, 6));
    }

    private static void starts() {
        Probe p = made();
        p.field.run(0, false);
        p.field.ticks(100);
        int sent = p.field.count(0, 5);
        int changes = p.field.count(0, 7);
        p.field.run(0, true);
        Probe.due("its own routes", "10.0.0.0/24 3 direct a\n10.5.0.0/16 2 static\nfd00::/64 1 direct b\n", p.show(0, 0));
        Probe.due("all changed", "10.0.0.0/24 - changed\n10.5.0.0/16 - changed\nfd00::/64 - changed\n", p.show(0, 3));
        Probe.due("three changes", changes + 3, p.field.count(0, 7));
        Probe.due("requests", sent + 2, p.field.count(0, 5));
        Probe.due("on a", Wire.REQUEST_4 + Wire.ALL_4, p.seen(0));
        Probe.due("on b", Wire.REQUEST_6 + Wire.ALL_6, p.seen(1));
        // Its first update since is 30 ticks later, whenever the last one was.
        p.field.ticks(29);
        sent = p.field.count(0, 5);
        p.field.ticks(1);
        Probe.due("an update on a", sent + 1, p.field.count(0, 5));
    }
}
