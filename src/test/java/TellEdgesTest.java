/** Promises 8, 15, 17 and 19 at the bounds of sending: sizes, delays, losses, lists, summaries, defaults. */
public final class TellEdgesTest {
    private static final int[] ROOMS = {84, 103, 104, 483, 484, 503, 504, 523, 524, 543, 544, 576};

    public static void main(String[] args) {
        fullDatagrams();
        rooms("", 0, 25);
        rooms(" password w", 20, 24);
        rooms(" md5 1 w", 40, 24);
        rooms(" sha 1 w", 60, 23);
        noneWithoutEntries();
        delays();
        lostOnesCount();
        loses();
        downLosesAll();
        fits();
        firstThatFits();
        filters();
        offsets();
        splits();
        summaries();
        summaryOfOne();
        defaults();
        defaultsOfTriggers();
        endings();
        neighbors();
        whoHears();
        comesFirstGoesThen();
        Probe.finish();
    }

    private static String tell(String... entries) {
        return Wire.RESPONSE_4 + String.join("", entries);
    }

    /** The entries (without keys) of the latest datagram on a link. */
    private static int entries(Probe p, int link, int keys) {
        return (p.field.seen(link) - 4 - keys) / 20;
    }

    /** Full datagrams of entries (25 at most), then the rest. */
    private static void fullDatagrams() {
        for (int family = 4; family <= 6; family += 2) {
            for (int n : new int[] {1, 24, 25, 26, 32}) {
                Probe p = new Probe();
                p.setUp("link a 1", "router x", "join x a " + (family == 4 ? "10.0.0.1/24" : "fd00::1/64"));
                p.setUpMany(n, "static x " + (family == 4 ? "11.%d.0.0/16 1" : "11:%d::/32 1"));
                p.field.ticks(1);
                int all = (n + 24) / 25;
                Probe.due(n + " routes of family " + family, 1 + all, p.field.count(0, 5));
                Probe.due("the last has", n - 25 * (all - 1), entries(p, 0, 0));
                p.field.run(0, false);
                // A router that stops tells its connected one, too.
                Probe.due("at the end", 1 + all + (n + 25) / 25, p.field.count(0, 5));
                Probe.due("the last has then", (n + 1) - 25 * ((n + 25) / 25 - 1), entries(p, 0, 0));
            }
        }
        for (int n : new int[] {49, 50, 51}) {
            Probe p = new Probe();
            p.setUp("link a 1", "link b 1", "router x", "join x a 10.0.0.1/24", "join x b 10.0.1.1/24");
            p.setUpMany(32, "static x 11.%d.0.0/16 1");
            StringBuilder heard = new StringBuilder();
            for (int i = 33; i < n; i++) {
                heard.append(Wire.entry("12." + i + ".0.0/16", 0, 1));
            }
            p.put(1, 4, 520, 255, Wire.address("10.0.1.2") + tell(heard.toString()));
            p.field.ticks(29);
            int sent = p.field.count(0, 5);
            p.field.link(1, false);
            p.field.link(1, true);
            p.field.ticks(1);
            // All that was heard is dying, and told on both: n entries on each, with the other's network.
            int each = (n + 24) / 25;
            Probe.due(n + " on a and b, and a request", sent + 1 + 2 * each, p.field.count(0, 5));
            Probe.due("the last on a", n - 25 * (each - 1), entries(p, 0, 0));
        }
    }

    /** As many as the link's M has room for, with the keys' bytes. */
    private static void rooms(String keys, int bytes, int most) {
        for (int m : ROOMS) {
            Probe p = new Probe();
            p.setUp("link a 1 mtu " + m, "router x", "join x a 10.0.0.1/24" + keys, "join x a fd00::1/64");
            p.setUpMany(32, "static x 11.%d.0.0/16 1");
            p.field.ticks(1);
            int room = Math.min(most, (m - 4 - bytes) / 20);
            int all = (32 + room - 1) / room;
            Probe.due(keys + " of M " + m, 2 + all, p.field.count(0, 5));
            Probe.due("the last has", 32 - room * (all - 1), entries(p, 0, bytes));
            Probe q = new Probe();
            q.setUp("link a 1 mtu " + m, "router x", "join x a fd00::1/64" + keys);
            q.setUpMany(32, "static x 11:%d::/32 1");
            q.field.ticks(1);
            room = Math.min(25, (m - 4) / 20);
            all = (32 + room - 1) / room;
            Probe.due("family 6 has no keys, of M " + m, 1 + all, q.field.count(0, 5));
            Probe.due("the last has", 32 - room * (all - 1), entries(q, 0, 0));
        }
    }

    /** None at all without entries. */
    private static void noneWithoutEntries() {
        Probe p = new Probe();
        p.setUp("link a 1", "router x", "join x a 10.0.0.1/24", "neighbor x a 10.0.0.2");
        p.put(0, 4, 520, 255, Wire.address("10.0.0.9") + Wire.REQUEST_4 + Wire.ALL_4);
        p.field.ticks(70);
        Probe.due("only its own network: a request alone", 1, p.field.count(0, 5));
        Probe.due("though its trigger is done", 1, p.field.count(0, 6));
        Probe.due("and it was asked", 1, p.field.count(0, 8));
        p.setUp("static x 12.0.0.0/8 1");
        p.field.ticks(5);
        Probe.due("one entry: to all, and to the neighbor", 3, p.field.count(0, 5));
        p.setUp("filter x out 12.0.0.0/8 deny", "static x 12.0.0.0/8 2");
        p.field.ticks(70);
        Probe.due("denied: none", 3, p.field.count(0, 5));
        p.setUp("router y");
        p.field.run(1, false);
        Probe.due("y has nothing to tell", 0, p.field.count(1, 5));
    }

    /** The k-th comes DELAY + (3 k modulo (J + 1)) ticks later. */
    private static void delays() {
        for (int delay = 1; delay <= 5; delay += 4) {
            for (int jitter = 0; jitter <= 4; jitter++) {
                for (int k = 0; k <= 6; k++) {
                    Probe p = new Probe();
                    p.setUp("link a " + delay + " jitter " + jitter);
                    for (int i = 0; i < k; i++) {
                        p.put(0, 4, 520, 255, "0a000009");
                    }
                    p.field.ticks(20);
                    p.put(0, 4, 520, 255, "0a000009");
                    int wait = delay + 3 * k % (jitter + 1);
                    p.field.ticks(wait - 1);
                    Probe.due("number " + k + " of jitter " + jitter, 1, p.field.flying());
                    p.field.ticks(1);
                    Probe.due("number " + k + " came", 0, p.field.flying());
                }
            }
        }
    }

    /** From 0, what is put and lost, too; each link has its own. */
    private static void lostOnesCount() {
        Probe p = new Probe();
        p.setUp("link a 1 jitter 4", "link b 1 jitter 4", "router x");
        p.field.lose(0, 1);
        p.setUp("join x a 10.0.0.1/24");
        Probe.due("number 0 is lost", 0, p.field.flying());
        p.put(0, 4, 520, 255, "0a000009");
        p.put(1, 4, 520, 255, "0a000009");
        p.field.ticks(1);
        Probe.due("number 0 of b came", 1, p.field.flying());
        p.field.ticks(2);
        Probe.due("number 1 of a did not", 1, p.field.flying());
        p.field.ticks(1);
        Probe.due("it came 1 + 3 later", 0, p.field.flying());
        p.field.link(0, false);
        p.field.link(0, true);
        p.field.ticks(1);
        Probe.due("number 2 is on its way for 1 + 1", 1, p.field.flying());
        p.field.ticks(1);
        Probe.due("it came", 0, p.field.flying());
    }

    /** The next n that go are lost, no more and no less. */
    private static void loses() {
        for (int n = 0; n <= 6; n++) {
            Probe p = new Probe();
            p.setUp("link a 5", "router x", "join x a 10.0.0.1/24 passive", "neighbor x a 10.0.0.2",
                    "neighbor x a 10.0.0.3", "neighbor x a 10.0.0.4", "neighbor x a 10.0.0.5");
            p.field.ticks(10);
            p.field.lose(0, n);
            p.field.run(0, false);
            Probe.due("four went, " + n + " are lost", Math.max(0, 4 - n), p.field.flying());
            Probe.due("all are sent", 5, p.field.count(0, 5));
            p.field.run(0, true);
            Probe.due("then one more", Math.max(0, Math.min(5 - n, 5)), p.field.flying());
        }
    }

    /** A link that goes down loses all that are on it. */
    private static void downLosesAll() {
        Probe p = new Probe();
        p.setUp("link a 3", "link b 3", "router x", "router y", "join x a 10.0.0.1/24", "join y a 10.0.0.2/24");
        p.put(1, 4, 520, 255, "0a000009");
        Probe.due("three", 3, p.field.flying());
        p.field.link(0, false);
        Probe.due("one on b", 1, p.field.flying());
        p.field.ticks(3);
        Probe.due("none came to x", 0, p.field.count(0, 0));
        Probe.due("none to y", 0, p.field.count(1, 0));
        p.field.link(0, true);
        Probe.due("two requests", 2, p.field.flying());
        p.field.ticks(2);
        p.field.link(0, false);
        p.field.link(0, true);
        Probe.due("lost in their last tick; two new ones", 2, p.field.flying());
        p.field.ticks(2);
        Probe.due("not there yet", 0, p.field.count(0, 0));
        p.field.ticks(1);
        Probe.due("there", 1, p.field.count(0, 0));
    }

    /** Which of 10.0.0.0 of lengths 7 to 32, and of 11.0.0.0/8, a list's entry fits. */
    private static void fit(String options, int from, int to) {
        Probe p = new Probe();
        p.setUp("link a 1", "router x", "join x a 192.0.0.1/24", "list n permit 10.0.0.0/8" + options, "distribute x out * n",
                "static x 11.0.0.0/8 1", "static x 11.0.0.0/16 1", "static x 10.0.0.0/7 1");
        StringBuilder want = new StringBuilder();
        for (int length = 8; length <= 32; length++) {
            p.setUp("static x 10.0.0.0/" + length + " 1");
            want.append(length >= from && length <= to ? Wire.entry("10.0.0.0/" + length, 0, 1) : "");
        }
        p.field.ticks(1);
        Probe.due("10.0.0.0/8" + options, tell(want.toString()), p.seen(0));
    }

    /** Its own length without options, or from ge (its own's) to le (all bits). */
    private static void fits() {
        fit("", 8, 8);
        fit(" ge 8", 8, 32);
        fit(" ge 9", 9, 32);
        fit(" ge 32", 32, 32);
        fit(" le 8", 8, 8);
        fit(" le 9", 8, 9);
        fit(" le 32", 8, 32);
        fit(" ge 8 le 8", 8, 8);
        fit(" ge 12 le 12", 12, 12);
        fit(" ge 12 le 13", 12, 13);
        fit(" le 31 ge 9", 9, 31);
        Probe p = new Probe();
        p.setUp("link a 1", "router x", "join x a fd00::1/64", "list n permit 1::/16 ge 17 le 127", "list n permit 2::/16 ge 17",
                "list n permit 3::/16 le 127", "distribute x out * n");
        StringBuilder want = new StringBuilder();
        for (String prefix : new String[] {"1::/16", "1::/17", "1::/127", "1::/128", "2::/16", "2::/17", "2::/127", "2::/128",
            "3::/16", "3::/17", "3::/127", "3::/128"}) {
            p.setUp("static x " + prefix + " 1");
            boolean fits = !prefix.equals("1::/16") && !prefix.equals("1::/128") && !prefix.equals("2::/16")
                    && !prefix.equals("3::/128");
            want.append(fits ? Wire.entry(prefix, 0, 1) : "");
        }
        p.field.ticks(1);
        Probe.due("of family 6", Wire.RESPONSE_6 + want, p.seen(0));
    }

    /** The first that fits a prefix decides; none: deny. */
    private static void firstThatFits() {
        Probe p = new Probe();
        p.setUp("link a 1", "link b 1", "router x", "join x a 192.0.0.1/24", "list n deny 10.1.0.0/16", "list n permit 10.0.0.0/8 le 16",
                "list n deny 10.2.0.0/16", "list n permit 11.0.0.0/8", "list m permit 0.0.0.0/0 le 32", "distribute x out a m",
                "distribute x out a n", "distribute x out b n", "static x 10.1.0.0/16 1",
                "static x 10.2.0.0/16 1", "static x 10.1.0.0/17 1", "static x 11.0.0.0/9 1", "static x 11.0.0.0/8 1",
                "static x 12.0.0.0/8 1");
        p.field.ticks(1);
        Probe.due("each list must permit it", tell(Wire.entry("10.2.0.0/16", 0, 1), Wire.entry("11.0.0.0/8", 0, 1)), p.seen(0));
    }

    /** Of a list of filters the first one that covers a prefix decides; none: permit. */
    private static void filters() {
        Probe p = new Probe();
        p.setUp("link a 1", "router x", "join x a 192.0.0.1/24", "filter x out 10.1.0.0/16 permit", "filter x out 10.0.0.0/8 deny",
                "filter x out 10.2.0.0/16 permit", "filter x out 11.0.0.1/32 deny", "filter x out ::/0 deny",
                "static x 10.1.0.0/16 1", "static x 10.1.0.0/17 1", "static x 10.0.0.0/15 1", "static x 10.2.0.0/16 1",
                "static x 10.0.0.0/8 1", "static x 10.0.0.0/7 1", "static x 11.0.0.0/31 1", "static x 11.0.0.1/32 1");
        p.field.ticks(1);
        Probe.due("filters out", tell(Wire.entry("10.0.0.0/7", 0, 1), Wire.entry("10.1.0.0/16", 0, 1),
                Wire.entry("10.1.0.0/17", 0, 1), Wire.entry("11.0.0.0/31", 0, 1)), p.seen(0));
    }

    /** The metric is N more, 16 at most; of the first offset whose list permits the prefix. */
    private static void offsets() {
        Probe p = new Probe();
        p.setUp("link a 1", "link b 1", "router x", "join x a 192.0.0.1/24", "list all permit 0.0.0.0/0 le 32",
                "list one permit 1.0.0.0/8", "list none deny 0.0.0.0/0 le 32", "offset x in * all 9", "offset x out b all 8",
                "offset x out * none 7", "offset x out a one 15", "offset x out * all 3", "offset x out a all 1",
                "static x 1.0.0.0/8 1", "static x 2.0.0.0/8 12", "static x 3.0.0.0/8 13", "static x 4.0.0.0/8 14",
                "static x 5.0.0.0/8 1");
        p.field.ticks(1);
        Probe.due("offsets", tell(Wire.entry("1.0.0.0/8", 0, 16), Wire.entry("2.0.0.0/8", 0, 15), Wire.entry("3.0.0.0/8", 0, 16),
                Wire.entry("4.0.0.0/8", 0, 16), Wire.entry("5.0.0.0/8", 0, 4)), p.seen(0));
        p.setUp("nostatic x 1.0.0.0/8");
        p.field.ticks(2);
        Probe.due("of a dying one", tell(Wire.entry("1.0.0.0/8", 0, 16)), p.seen(0));
    }

    /** Learned ones of this interface: off as they are, simple not, poison with 16; others never. */
    private static void splits() {
        String[] words = {"off", "simple", "poison"};
        int[] metrics = {2, 0, 16};
        for (int i = 0; i < 3; i++) {
            Probe p = new Probe();
            p.setUp("link a 1", "router x", "join x a 10.0.0.1/24 split " + words[i], "timers x 1000 100 100");
            p.field.ticks(3);
            p.put(0, 4, 520, 255, Wire.address("10.0.0.2") + tell(Wire.entry("11.0.0.0/8", 5, 1)));
            p.field.ticks(6);
            int sent = p.field.count(0, 5);
            p.put(0, 4, 520, 255, Wire.address("10.0.0.9") + Wire.REQUEST_4 + Wire.ALL_4);
            p.field.ticks(1);
            // What was put is the latest on the link when nothing is told.
            Probe.due("split " + words[i], i == 1 ? Wire.REQUEST_4 + Wire.ALL_4
                    : tell(Wire.entry("11.0.0.0/8", 5, metrics[i])), p.seen(0));
            Probe.due("sent", i == 1 ? sent : sent + 1, p.field.count(0, 5));
        }
    }

    /** Routes that a summary covers, also its own prefix; not shorter ones, nor those beside it. */
    private static void summaries() {
        Probe p = new Probe();
        p.setUp("link a 1", "router x", "join x a 192.0.0.1/24", "summary x a 10.4.0.0/14", "summary x a 10.4.0.0/15",
                "summary x a 20.0.0.0/32", "summary x a 30.0.0.0/8", "static x 10.3.0.0/16 1", "static x 10.0.0.0/13 1", "static x 10.4.0.0/14 9 tag 3", "static x 10.4.0.0/16 7 tag 4", "static x 10.7.255.255/32 8",
                "static x 10.8.0.0/16 1", "static x 20.0.0.0/32 5 tag 9", "static x 20.0.0.0/31 6 tag 9");
        p.field.ticks(1);
        Probe.due("summaries", tell(Wire.entry("10.0.0.0/13", 0, 1), Wire.entry("10.3.0.0/16", 0, 1),
                Wire.entry("10.4.0.0/14", 0, 7), Wire.entry("10.8.0.0/16", 0, 1), Wire.entry("20.0.0.0/31", 9, 6),
                Wire.entry("20.0.0.0/32", 0, 5)), p.seen(0));
    }

    /** The least metric of those that are told, 16 too; none if none is told. */
    private static void summaryOfOne() {
        Probe p = new Probe();
        p.setUp("link a 1", "router x", "join x a 192.0.0.1/24", "summary x a 10.0.0.0/8", "static x 10.1.0.0/16 5",
                "static x 10.2.0.0/16 4", "timers x 1000 100 100");
        p.field.ticks(1);
        Probe.due("4", tell(Wire.entry("10.0.0.0/8", 0, 4)), p.seen(0));
        p.setUp("nostatic x 10.2.0.0/16");
        p.field.ticks(2);
        Probe.due("5: one is dying", tell(Wire.entry("10.0.0.0/8", 0, 5)), p.seen(0));
        p.setUp("filter x out 10.1.0.0/16 deny", "static x 10.1.0.0/16 6");
        p.field.ticks(3);
        Probe.due("no change of one that is told", tell(Wire.entry("10.0.0.0/8", 0, 5)), p.seen(0));
        int sent = p.field.count(0, 5);
        p.put(0, 4, 520, 255, Wire.address("192.0.0.2") + Wire.REQUEST_4 + Wire.ALL_4);
        p.field.ticks(1);
        Probe.due("16: only a dying one is told", tell(Wire.entry("10.0.0.0/8", 0, 16)), p.seen(0));
        p.setUp("filter x out 10.2.0.0/16 deny");
        p.put(0, 4, 520, 255, Wire.address("192.0.0.2") + Wire.REQUEST_4 + Wire.ALL_4);
        p.field.ticks(1);
        Probe.due("none is told", sent + 1, p.field.count(0, 5));
    }

    /** With default a METRIC: an entry of length 0; no route or summary of this prefix; with only nothing else. */
    private static void defaults() {
        String[] lines = {"", "default x a 1", "default x a 15", "default x a 7 only", "default x a off"};
        String zero = Wire.entry("0.0.0.0/0", 4, 3);
        String one = Wire.entry("0.0.0.0/1", 0, 2);
        String[] want = {zero + one, Wire.entry("0.0.0.0/0", 0, 1) + one, Wire.entry("0.0.0.0/0", 0, 15) + one,
            Wire.entry("0.0.0.0/0", 0, 7), zero + one};
        for (int i = 0; i < lines.length; i++) {
            Probe p = new Probe();
            p.setUp("link a 1", "router x", "join x a 192.0.0.1/24", "static x 0.0.0.0/0 3 tag 4", "static x 0.0.0.0/1 2", lines[i]);
            p.field.ticks(30);
            Probe.due("update with " + lines[i], tell(want[i]), p.seen(0));
            p.put(0, 4, 520, 255, Wire.address("192.0.0.2"));
            p.put(0, 4, 520, 255, Wire.address("192.0.0.2") + Wire.REQUEST_4 + Wire.ALL_4);
            p.field.ticks(1);
            Probe.due("answer with " + lines[i], tell(want[i]), p.seen(0));
        }
        Probe p = new Probe();
        p.setUp("link a 1", "router x", "join x a 192.0.0.1/24", "summary x a 0.0.0.0/1", "static x 0.0.0.0/0 3 tag 4",
                "static x 1.0.0.0/8 2", "filter x out 0.0.0.0/0 deny", "default x a 5");
        p.field.ticks(30);
        Probe.due("it is no route: filters look past it", tell(Wire.entry("0.0.0.0/0", 0, 5)), p.seen(0));
    }

    /** In a telling of what changed likewise, but without the entry. */
    private static void defaultsOfTriggers() {
        String[] lines = {"", "default x a 1", "default x a 7 only"};
        String both = Wire.entry("0.0.0.0/0", 4, 3) + Wire.entry("0.0.0.0/1", 0, 2);
        String[] want = {tell(both), tell(Wire.entry("0.0.0.0/1", 0, 2)), Wire.REQUEST_4 + Wire.ALL_4};
        for (int i = 0; i < lines.length; i++) {
            Probe p = new Probe();
            p.setUp("link a 1", "router x", "join x a 192.0.0.1/24", "static x 0.0.0.0/0 3 tag 4", "static x 0.0.0.0/1 2", lines[i]);
            p.field.ticks(1);
            Probe.due("a trigger with " + lines[i], want[i], p.seen(0));
            Probe.due("is done", 1, p.field.count(0, 6));
        }
    }

    /** A router that stops tells all its routes with 16 and their tags, whatever else it was told. */
    private static void endings() {
        Probe p = new Probe();
        p.setUp("link a 1", "link b 1", "router x", "join x a 10.0.0.1/24 split simple", "join x b 10.0.1.1/24",
                "static x 0.0.0.0/0 3 tag 4", "static x 11.0.0.0/8 2 tag 65535", "default x a 1 only", "summary x a 0.0.0.0/0",
                "list all permit 0.0.0.0/0 le 32", "list none deny ::/0", "distribute x out * none", "offset x out * all 1",
                "redistribute x static 5 tag 6", "redistribute x connected off", "filter x out 0.0.0.0/0 deny");
        p.field.ticks(3);
        p.put(0, 4, 520, 255, Wire.address("10.0.0.2") + tell(Wire.entry("12.0.0.0/8", 8, 1), Wire.entry("13.0.0.0/8", 9, 1)));
        p.field.ticks(1);
        p.put(0, 4, 520, 255, Wire.address("10.0.0.2") + tell(Wire.entry("13.0.0.0/8", 9, 16)));
        p.field.ticks(1);
        p.field.run(0, false);
        String want = tell(Wire.entry("0.0.0.0/0", 4, 16), Wire.entry("10.0.0.0/24", 0, 16), Wire.entry("10.0.1.0/24", 0, 16),
                Wire.entry("11.0.0.0/8", 65535, 16), Wire.entry("12.0.0.0/8", 8, 16), Wire.entry("13.0.0.0/8", 9, 16));
        Probe.due("on a", want, p.seen(0));
        Probe.due("on b", want, p.seen(1));
    }

    /** To all, unless it is passive; then the same to each neighbor of the family. */
    private static void neighbors() {
        for (int passive = 0; passive < 2; passive++) {
            for (int n = 0; n <= 4; n++) {
                Probe p = new Probe();
                p.setUp("link a 1", "router x", "join x a 10.0.0.1/24" + (passive > 0 ? " passive" : ""), "join x a fd00::1/64",
                        "static x 11.0.0.0/8 1", "static x 11::/16 1");
                for (int i = 0; i < n; i++) {
                    p.setUp("neighbor x a " + (i < 3 ? "10.0.0." + (2 + i) : "fd00::2"));
                }
                p.field.ticks(1);
                // Two requests; then each family to all, and to its neighbors.
                Probe.due(n + " neighbors", 2 + (passive > 0 ? 0 : 2) + n, p.field.count(0, 5));
            }
        }
    }

    /** One to an address comes to the first interface there that has it, of a running router, not the sender. */
    private static void whoHears() {
        Probe p = new Probe();
        p.setUp("link a 1", "link b 1", "router w", "router x", "router y", "router z", "join w a 10.0.0.1/24",
                "join x b 10.0.0.2/24", "join y a 10.0.0.2/24", "join z a 10.0.0.2/24", "timers w 1000 180 120");
        p.field.ticks(10);
        int[] came = new int[4];
        for (int i = 0; i < 4; i++) {
            came[i] = p.field.count(i, 0);
        }
        p.put(0, 4, 1, 1, Wire.address("10.0.0.2") + Wire.REQUEST_4 + Wire.entry("10.0.0.0/24", 0, 1));
        p.field.ticks(1);
        Probe.due("w was asked", came[0] + 1, p.field.count(0, 0));
        p.field.ticks(1);
        Probe.due("x is on another link", came[1], p.field.count(1, 0));
        Probe.due("y: the request and the answer", came[2] + 2, p.field.count(2, 0));
        Probe.due("z: the request alone", came[3] + 1, p.field.count(3, 0));
        p.field.run(2, false);
        p.field.ticks(2);
        int cameToZ = p.field.count(3, 0);
        p.put(0, 4, 1, 1, Wire.address("10.0.0.2") + Wire.REQUEST_4 + Wire.entry("10.0.0.0/24", 0, 1));
        p.field.ticks(2);
        Probe.due("y stands still: z has both", cameToZ + 2, p.field.count(3, 0));
        Probe q = new Probe();
        q.setUp("link a 1", "router x", "join x a 10.0.0.1/24", "neighbor x a 10.0.0.1", "static x 11.0.0.0/8 1");
        q.field.ticks(5);
        Probe.due("never to the sender", 0, q.field.count(0, 0));
    }

    /** Each is on its way until it comes: one that comes makes room for its answer. */
    private static void comesFirstGoesThen() {
        Probe p = new Probe();
        p.setUp("link b 5", "router x", "timers x 1 180 120", "redistribute x connected off", "router y",
                "join y b 10.9.0.1/24");
        for (String link : new String[] {"a", "c", "d", "e"}) {
            p.setUp("link " + link + " 5 mtu 84", "join x " + link + " 10.0.0.1/24");
            for (int i = 0; i < 4; i++) {
                p.setUp("neighbor x " + link + " 1.1.1.1");
            }
        }
        p.setUpMany(32, "static x 11.%d.0.0/16 1");
        p.field.ticks(29);
        p.put(0, 4, 520, 255, Wire.address("10.9.0.2") + Wire.REQUEST_4 + Wire.entry("10.9.0.0/24", 0, 1));
        p.field.ticks(1);
        Probe.due("8 to all and to 4 neighbors, on 4 links", 1 + 4 * 5 * 8, p.field.flying());
        p.field.ticks(1);
        Probe.due("as many as may be", 256, p.field.flying());
        p.setUp("timers x 1000 180 120");
        p.field.ticks(2);
        Probe.due("at 33", 256, p.field.flying());
        int sent = p.field.count(1, 5);
        p.field.ticks(1);
        Probe.due("at 34 the request came", 1, p.field.count(1, 8));
        Probe.due("it is answered", sent + 1, p.field.count(1, 5));
        Probe.due("and the answer is on its way", 256, p.field.flying());
    }
}
