/** Promises 4 and 5: how many of each sort there may be, the last that may and the first too many. */
public final class LimitEdgesTest {
    public static void main(String[] args) {
        links();
        routers();
        interfaces();
        keys();
        keysOfJoins();
        timesOfJoins();
        passwordsAndChains();
        statics();
        filters();
        lists();
        policies();
        summariesAndNeighbors();
        Probe.finish();
    }

    private static Probe made() {
        Probe p = new Probe();
        p.setUp("link a 1", "link b 1", "link c 1", "link d 1", "link e 1", "router x", "router y", "join x a 10.0.0.1/24",
                "join y a 10.0.0.2/24", "join x b 10.0.1.1/24", "list n permit ::/0");
        return p;
    }

    /** A link, up. At most 10. */
    private static void links() {
        Probe p = new Probe();
        p.setUpMany(9, "link l%d 1");
        p.fault("link l9 1", 0);
        String before = p.config();
        p.fault("link l10 1", 6);
        p.fault("link l10 0", 4);
        p.fault("link l9 1", 3);
        Probe.due("ten links", before, p.config());
        Probe.due("the tenth is there, and up", true, p.field.link(9, false));
        Probe.due("an eleventh is not", false, p.field.link(10, false));
    }

    /** A router, running. At most 6. */
    private static void routers() {
        Probe p = new Probe();
        p.setUpMany(5, "router r%d");
        p.fault("router r5", 0);
        p.fault("router r6", 6);
        p.fault("router r5", 3);
        Probe.due("the sixth is there, and runs", true, p.field.run(5, false));
        Probe.due("a seventh is not", false, p.field.run(6, false));
    }

    /** At most 4 interfaces; one for both families. */
    private static void interfaces() {
        Probe p = made();
        p.fault("join x c 10.0.2.1/24", 0);
        p.fault("join x d fd00:3::1/64", 0);
        int sent = p.field.count(0, 5);
        p.fault("join x e 10.0.4.1/24", 6);
        p.fault("join x e fd00:4::1/64", 6);
        Probe.due("nothing goes", sent, p.field.count(0, 5));
        Probe.due("nothing on e", 0, p.field.seen(4));
        p.fault("join x d 10.0.3.1/24", 0);
        p.fault("join x a fd00::1/64", 0);
        p.fault("join y e 10.0.4.2/24", 0);
        Probe.due("four of x", 4, p.show(0, 1).split("\n").length);
    }

    /** A key in the place of the one with this N, or behind the others; at most 4. */
    private static void keys() {
        Probe p = made();
        p.setUp("key x a 1 md5 w 0 1", "key x a 2 md5 w 0 1", "key x a 3 md5 w 0 1");
        p.fault("key x a 4 md5 w 0 1", 0);
        p.fault("key x a 5 md5 w 0 1", 6);
        p.fault("key x a 5 md5 w 2 1", 4);
        p.fault("key x a 2 sha v 3 4", 0);
        p.fault("key x b 5 md5 w 0 1", 0);
        Probe.due("the four of a", true, p.config().contains("key x a 1 md5 w 0 1\nkey x a 2 sha v 3 4\n"
                + "key x a 3 md5 w 0 1\nkey x a 4 md5 w 0 1\njoin x b"));
        p.fault("nokey x a", 0);
        p.fault("key x a 5 md5 w 0 1", 0);
    }

    /** A fifth on the way is 6, also when a password stands behind it. */
    private static void keysOfJoins() {
        String[] three = {"key x a 1 md5 w 0 1", "key x a 2 md5 w 0 1", "key x a 3 md5 w 0 1"};
        int[] faults = {0, 6, 6, 6, 0, 0, 0, 0};
        String[] options = {"md5 4 w", "md5 4 w sha 5 w", "md5 4 w sha 5 w password p", "sha 5 w cost 3 md5 4 w password p",
            "md5 4 w sha 4 w", "md5 4 w sha 1 w", "password p md5 4 w sha 5 w", "md5 4 w password p sha 5 w"};
        for (int i = 0; i < options.length; i++) {
            Probe p = made();
            p.setUp(three);
            String before = p.show(0, 1) + p.config();
            p.fault("join x a fd00::1/64 " + options[i], faults[i]);
            if (faults[i] != 0) {
                Probe.due("nothing is done by " + options[i], before, p.show(0, 1) + p.config());
            }
        }
    }

    /** Md5 and sha of a join are as by the line key with 0 and 99999, also in the place of one with this N. */
    private static void timesOfJoins() {
        Probe p = made();
        p.setUp("key x a 7 md5 w 5 9", "key x a 8 sha w 6 10", "join x a fd00::1/64 sha 7 v");
        Probe.due("in the place of 7", true, p.config().contains("key x a 7 sha v 0 99999\nkey x a 8 sha w 6 10\njoin x b"));
        p.setUp("key x b 1 sha w 5 9", "nokey x b", "join x b fd01::1/64 md5 2 v");
        Probe.due("behind nokey", true, p.config().contains("key x b 2 md5 v 0 99999\n"));
        p.setUp("key y a 1 sha w 5 9", "key y a 2 sha w 6 9", "join y a fd00::2/64 password q md5 3 v");
        Probe.due("behind a password", true, p.config().contains("join y a fd00::2/64\nkey y a 3 md5 v 0 99999\n"));
    }

    /** A password takes the place of the chain, a key of a chain that of the password. */
    private static void passwordsAndChains() {
        Probe p = made();
        p.setUp("key x a 1 md5 w 0 1", "key x a 2 md5 w 0 1", "join x a fd00::1/64 password p");
        Probe.due("a password", true, p.show(0, 1).startsWith("a up cost 1 poison password "));
        Probe.due("no key is left", false, p.config().contains("\nkey "));
        p.setUp("key x a 3 md5 w 0 1");
        Probe.due("a chain", true, p.show(0, 1).startsWith("a up cost 1 poison chain "));
        Probe.due("of that key alone", true, p.config().contains("split poison\njoin x a fd00::1/64\nkey x a 3 md5 w 0 1\njoin"));
        p.setUp("nokey x a");
        Probe.due("open", true, p.show(0, 1).startsWith("a up cost 1 poison open "));
        p.setUp("join x b fd01::1/64 md5 1 w password p");
        Probe.due("in the order told: the password last", true, p.show(0, 1).contains("b up cost 1 poison password "));
        p.setUp("join y b fd01::2/64 password p md5 1 w");
        Probe.due("in the order told: the key last", true, p.show(1, 1).contains("b up cost 1 poison chain "));
    }

    /** At most 32 a router; again: another metric and tag; nostatic makes room. */
    private static void statics() {
        Probe p = made();
        p.setUpMany(31, "static x 11.%d.0.0/16 1");
        p.fault("static x 1::/16 1", 0);
        int routes = p.field.routes(0);
        p.fault("static x 2::/16 1", 6);
        p.fault("static x 2::/16 16", 4);
        Probe.due("32 and two connected", 34, routes);
        Probe.due("no more", routes, p.field.routes(0));
        p.fault("static x 1::/16 2 tag 3", 0);
        p.fault("static y 2::/16 1", 0);
        p.fault("nostatic x 11.0.0.0/16", 0);
        p.fault("nostatic x 11.0.0.0/16", 3);
        p.fault("static x 2::/16 1", 0);
        p.fault("static x 11.0.0.0/16 1", 6);
    }

    /** One more at the end of the list in or out. At most 32 each. */
    private static void filters() {
        for (String side : new String[] {"in", "out"}) {
            Probe p = made();
            p.setUpMany(31, "filter x " + side + " 11.%d.0.0/16 deny");
            p.fault("filter x " + side + " ::/0 permit", 0);
            String before = p.config();
            p.fault("filter x " + side + " ::/0 permit", 6);
            p.fault("filter x " + side + " 10.0.0.1/8 permit", 5);
            Probe.due("32 of them", before, p.config());
            p.fault("filter x " + (side.equals("in") ? "out" : "in") + " ::/0 permit", 0);
            p.fault("filter y " + side + " ::/0 permit", 0);
        }
    }

    /** At most 8 lists, of 16 entries. */
    private static void lists() {
        Probe p = made();
        p.setUpMany(6, "list l%d permit ::/0");
        p.fault("list l6 permit ::/0", 0);
        p.fault("list l7 permit ::/0", 6);
        p.fault("list l7 permit ::/0 le 129", 4);
        p.fault("distribute x in * l7", 3);
        p.fault("distribute x in * l6", 0);
        p.fault("list n deny 10.0.0.0/8", 0);
        p.setUpMany(13, "list n deny 10.%d.0.0/16");
        p.fault("list n permit ::/1", 0);
        String before = p.config();
        p.fault("list n permit ::/2", 6);
        p.fault("list n permit ::/2 ge 1", 4);
        Probe.due("16 entries", before, p.config());
        p.fault("list l6 permit ::/2", 0);
    }

    /** Distribute: at most 8 a router. Offset: at most 8. */
    private static void policies() {
        for (String line : new String[] {"distribute x %d * n", "offset x %d b n 3"}) {
            Probe p = made();
            for (int i = 0; i < 8; i++) {
                p.fault(line.replace("%d", i < 3 ? "in" : "out"), 0);
            }
            p.fault(line.replace("%d", "in"), 6);
            p.fault(line.replace("%d", "out"), 6);
            p.fault(line.replace("%d", "in").replace(" n", " q"), 3);
            p.fault(line.replace("%d", "in").replace("x", "y"), 0);
            p.fault(line.startsWith("d") ? "offset x in * n 1" : "distribute x in * n", 0);
        }
        Probe p = made();
        p.fault("distribute x in e n", 0);
        p.fault("offset x out e n 15", 0);
    }

    /** At most 4 an interface, of each. */
    private static void summariesAndNeighbors() {
        Probe p = made();
        p.setUp("summary x a 10.0.0.0/8", "summary x a 10.0.0.0/8", "summary x a ::/0");
        p.fault("summary x a 11.0.0.0/8", 0);
        p.fault("summary x a 12.0.0.0/8", 6);
        p.fault("summary x a 12.0.0.1/8", 5);
        p.fault("summary x b 12.0.0.0/8", 0);
        p.fault("summary y a 12.0.0.0/8", 0);
        p.fault("summary x c 12.0.0.0/8", 3);
        p.setUp("neighbor x a 10.0.0.8", "neighbor x a 10.0.0.8", "neighbor x a ::1");
        p.fault("neighbor x a 200.0.0.9", 0);
        p.fault("neighbor x a 10.0.0.10", 6);
        p.fault("neighbor x a 10.0.0.256", 5);
        p.fault("neighbor x b 10.0.0.10", 0);
        p.fault("neighbor y a 10.0.0.10", 0);
        p.fault("neighbor x c 10.0.0.10", 3);
    }
}
