import java.util.Random;

/** Promise 12: config, its text and that it makes the same field. */
public final class ConfigTest {
    public static void main(String[] args) {
        whole();
        untold();
        again();
        tooLong();
        Probe.finish();
    }

    private static final String[] LINES = {
        "link b 2", "link a 05 mtu 100 jitter 4", "router y", "list n permit 10.0.0.0/8 le 24 ge 9",
        "list m deny FD00::/16 le 128", "list n deny ::/0", "router x", "join x a fd00:0:0::00A1/64 cost 3 md5 7 seven",
        "join x b 10.0.1.1/24 password p!~ split simple", "join x a 10.0.0.1/24 passive sha 2 two",
        "key x a 7 sha other 5 9", "key x a 1 md5 one 0 99999", "static x 2::/16 5", "static x 10.5.0.0/16 4 tag 65535",
        "static x 10.5.0.0/15 15", "filter x out 0.0.0.0/0 permit", "filter x in 10.0.0.0/8 deny",
        "filter x in ::/0 permit", "offset x out * n 15", "offset x in a m 1", "distribute x out b m",
        "distribute x in * n", "neighbor x a 10.0.0.2", "neighbor x a FD00::2", "summary x a 10.0.0.0/8",
        "summary x a ::/0", "summary x b 10.4.0.0/14", "default x a 3 only", "default x b 15",
        "redistribute x static off", "redistribute x connected own tag 5", "timers x 1 02 1000",
        "redistribute y static 7 tag 0"};

    private static final String TEXT = "link b 2 jitter 0 mtu 576\nlink a 5 jitter 4 mtu 100\n"
            + "list n permit 10.0.0.0/8 ge 9 le 24\nlist n deny ::/0\nlist m deny fd00::/16 le 128\n"
            + "router y\ntimers y 30 180 120\nredistribute y static 7 tag 0\n"
            + "router x\ntimers x 1 2 1000\n"
            + "join x a 10.0.0.1/24 cost 3 split poison passive\njoin x a fd00::a1/64\n"
            + "key x a 7 sha other 5 9\nkey x a 2 sha two 0 99999\nkey x a 1 md5 one 0 99999\n"
            + "join x b 10.0.1.1/24 cost 1 split simple password p!~\n"
            + "static x 10.4.0.0/15 15 tag 0\nstatic x 10.5.0.0/16 4 tag 65535\nstatic x 2::/16 5 tag 0\n"
            + "filter x in 10.0.0.0/8 deny\nfilter x in ::/0 permit\nfilter x out 0.0.0.0/0 permit\n"
            + "distribute x out b m\ndistribute x in * n\noffset x out * n 15\noffset x in a m 1\n"
            + "summary x a 10.0.0.0/8\nsummary x a ::/0\nneighbor x a 10.0.0.2\nneighbor x a fd00::2\n"
            + "default x a 3 only\nsummary x b 10.4.0.0/14\ndefault x b 15\n"
            + "redistribute x connected own tag 5\nredistribute x static off\n";

    private static void whole() {
        Probe p = new Probe();
        for (String line : LINES) {
            // One prefix has bits behind its length: it is no prefix.
            if (line.equals("static x 10.5.0.0/15 15")) {
                p.fault(line, 5);
                p.setUp("static x 10.4.0.0/15 15");
            } else {
                p.setUp(line);
            }
        }
        Probe.due("the text", TEXT, p.config());
        p.field.link(0, false);
        p.field.run(1, false);
        p.field.ticks(100);
        Probe.due("whatever runs or is up", TEXT, p.config());
        Probe q = new Probe();
        Probe.due("it reads", TEXT.split("\n").length, q.read(TEXT));
        Probe.due("it makes the same", TEXT, q.config());
        for (int what = 0; what < 4; what++) {
            Probe.due("show " + what, false, q.show(1, what).equals("NONE"));
        }
    }

    private static void untold() {
        Probe p = new Probe();
        p.setUp("link a 1", "router x", "join x a ::1/128", "default x a 5", "default x a off",
                "redistribute x static 5 tag 7", "redistribute x static own", "redistribute x connected off tag 3",
                "join x a 0.0.0.0/0 password a", "key x a 0 md5 b 1 2", "nokey x a", "nokey x a");
        Probe.due("as at first", "link a 1 jitter 0 mtu 576\nrouter x\ntimers x 30 180 120\n"
                + "join x a 0.0.0.0/0 cost 1 split poison\njoin x a ::1/128\nredistribute x connected off tag 3\n",
                p.config());
        p.setUp("redistribute x connected own", "redistribute x static own tag 0", "link b 1", "join x b 10.0.1.1/24",
                "key x b 4 sha w 5 9", "join x b fd00::1/64 md5 5 v", "default x b 1");
        Probe.due("keys stay as told", true, p.config().contains("join x b fd00::1/64\nkey x b 4 sha w 5 9\n"
                + "key x b 5 md5 v 0 99999\ndefault x b 1\n"));
        p.setUp("default x b off");
        Probe.due("own with a tag", true, p.config().endsWith(" 99999\nredistribute x static own tag 0\n"));
    }

    /** Fields of many lines: what config writes is read without a fault and written again the same. */
    private static void again() {
        Random random = new Random(5);
        for (int n = 0; n < 40; n++) {
            Probe p = new Probe();
            for (int i = 0; i < 3; i++) {
                p.read("link l" + i + " " + (1 + random.nextInt(5)));
                p.read("router r" + i);
                p.read("list n" + i + " permit " + prefix(random));
            }
            for (int i = 0; i < 60; i++) {
                p.read(line(random));
            }
            String text = p.config();
            Probe q = new Probe();
            Probe.due("read of " + text, text.split("\n").length, q.read(text));
            Probe.due("config", text, q.config());
            for (int r = 0; r < 3; r++) {
                Probe.due("interfaces", p.show(r, 1), q.show(r, 1));
                Probe.due("routes", p.show(r, 0), q.show(r, 0));
            }
        }
    }

    /** So much can't be fed in 512 calls; it is the only way to come to the bound. */
    private static void tooLong() {
        Probe p = new Probe();
        p.field.allowMoreCalls();
        for (int r = 0; r < 6; r++) {
            p.setUp("router abcdefghijk" + r);
        }
        for (int i = 0; i < 6 * 96 && p.field.config() < 39900; i++) {
            String name = "abcdefghijk" + i / 96;
            String prefix = "1111:2222:3333:4444:5555:6666:7777:" + (1000 + i) + "/128";
            p.setUp(i % 3 == 0 ? "static " + name + " " + prefix + " 9 tag 10000"
                    : "filter " + name + (i % 3 == 1 ? " in " : " out ") + prefix + " permit");
        }
        int room = 40000 - p.field.config();
        // A line of a list has 17 to 28 bytes, by its name.
        for (; room > 56; room -= 28) {
            p.setUp("list aaaaaaaaaaaa deny ::/0");
        }
        int first = Math.min(28, room - 17);
        p.setUp("list " + "b".repeat(first - 16) + " deny ::/0", "list " + "c".repeat(room - first - 16) + " deny ::/0");
        Probe.due("40000 bytes", 40000, p.field.config());
        p.field.show(0, 1);
        p.setUp("static abcdefghijk0 1111:2222:3333:4444:5555:6666:7777:1000/128 10 tag 10000");
        Probe.due("40001 bytes", -1, p.field.config());
        Probe.due("the text stays", "", p.text(0));
        p.setUp("static abcdefghijk0 1111:2222:3333:4444:5555:6666:7777:1000/128 1 tag 10000");
        Probe.due("40000 bytes again", 40000, p.field.config());
    }

    private static String prefix(Random random) {
        return random.nextBoolean() ? "10." + random.nextInt(4) + ".0.0/16" : random.nextInt(4) + "::/16";
    }

    private static String line(Random random) {
        String router = "r" + random.nextInt(3);
        String port = router + " l" + random.nextInt(3);
        String side = random.nextBoolean() ? " in " : " out ";
        String list = (random.nextBoolean() ? "*" : "l" + random.nextInt(3)) + " n" + random.nextInt(3);
        String[] keys = {"", " password w", " md5 1 one", " sha 2 two passive", " cost 7 md5 3 three split off"};
        switch (random.nextInt(13)) {
            case 0: return "join " + port + " 10.0." + random.nextInt(9) + ".1/24" + keys[random.nextInt(5)];
            case 1: return "join " + port + " fd00:" + random.nextInt(9) + "::1/64" + keys[random.nextInt(5)];
            case 2: return "key " + port + " " + random.nextInt(6) + " md5 w " + random.nextInt(9) + " 10";
            case 3: return "static " + router + " " + prefix(random) + " 3 tag " + random.nextInt(9);
            case 4: return "filter " + router + side + prefix(random) + " deny";
            case 5: return "distribute " + router + side + list;
            case 6: return "offset " + router + side + list + " 4";
            case 7: return "summary " + port + " " + prefix(random);
            case 8: return "neighbor " + port + " 10.0.0." + random.nextInt(9);
            case 9: return "redistribute " + router + (random.nextBoolean() ? " static" : " connected")
                    + (random.nextBoolean() ? " off" : " own") + (random.nextBoolean() ? " tag 6" : "");
            case 10: return "default " + port + (random.nextBoolean() ? " off" : " 3 only");
            case 11: return "list n" + random.nextInt(3) + " deny " + prefix(random) + " ge 20";
            default: return "timers " + router + " 10 " + (1 + random.nextInt(99)) + " 5";
        }
    }
}
