/** Keys at their bounds (promises 4, 10, 15, 17): times, sizes, numbers, entries, of what is sent and heard. */
public final class KeyEdgesTest {
    private static final String ENTRY = Wire.entry("11.0.0.0/8", 0, 1);

    public static void main(String[] args) {
        words();
        goodWhenSent();
        goodWhenHeard();
        whichIsBorne();
        nothingGoes();
        numbersGoOn();
        numbersHeard();
        numbersOfSourcesAndInterfaces();
        numbersOfLikeSources();
        mostEntries();
        sizesTold();
        endsOfSha();
        passwords();
        openOnes();
        Probe.finish();
    }

    private static Probe made(String... more) {
        Probe p = new Probe();
        p.setUp("link a 1", "router x", "join x a 10.0.0.1/24", "timers x 1000 1000 1000");
        p.setUp(more);
        return p;
    }

    private static void hear(Probe p, String source, String datagram) {
        Probe.due("put", true, p.put(0, 4, 520, 255, Wire.address(source) + datagram));
        p.field.ticks(1);
    }

    /** W of 1 to 16 bytes, N 0 .. 255, in all sorts of keys. */
    private static void words() {
        String all = "!#$%&()*+,-./:;<=>?@[]^_`{|}~0123456789abcdefghijklmnopqrstuvwxyz";
        for (int size = 1; size <= 16; size++) {
            String word = all.substring(3 * size, 4 * size);
            int n = size == 1 ? 0 : size == 16 ? 255 : 17 * size;
            Probe p = new Probe();
            p.setUp("link a 1", "link b 1", "link c 1", "router x", "join x a 10.0.0.1/24 password " + word,
                    "join x b 10.0.1.1/24 md5 " + n + " " + word, "join x c 10.0.2.1/24 sha " + n + " " + word);
            Probe.due("password of " + size, Wire.REQUEST_4 + Wire.password(word) + Wire.ALL_4, p.seen(0));
            Probe.due("md5 of " + size, Wire.md5(Wire.REQUEST_4, n, word, 0, Wire.ALL_4), p.seen(1));
            Probe.due("sha of " + size, Wire.sha(Wire.REQUEST_4, n, word, 0, Wire.ALL_4), p.seen(2));
        }
    }

    /** Of a chain a key is good from its FROM to its TO; when none is good, nothing goes (nor counts). */
    private static void goodWhenSent() {
        int[][] times = {{5, 5}, {5, 7}, {0, 4}, {9, 99999}};
        for (int[] one : times) {
            for (int at : new int[] {one[0] - 1, one[0], one[1], one[1] + 1}) {
                if (at < 1 || at > 20) {
                    continue;
                }
                Probe p = made("key x a 3 md5 w " + one[0] + " " + one[1]);
                p.field.ticks(at);
                int sent = p.field.count(0, 5);
                p.field.run(0, false);
                boolean good = at >= one[0] && at <= one[1];
                Probe.due("at " + at + " of " + one[0] + " to " + one[1], sent + (good ? 1 : 0), p.field.count(0, 5));
            }
        }
    }

    private static void goodWhenHeard() {
        for (int at = 3; at <= 8; at++) {
            Probe p = made("key x a 3 sha w 5 6");
            p.field.ticks(at - 1);
            hear(p, "10.0.0.2", Wire.sha(Wire.RESPONSE_4, 3, "w", 0, ENTRY));
            Probe.due("bad keys at " + at, at < 5 || at > 6 ? 1 : 0, p.field.count(0, 3));
            Probe.due("routes at " + at, at < 5 || at > 6 ? 1 : 2, p.field.routes(0));
        }
    }

    /** The good one with the greatest FROM (of these the greatest N). */
    private static void whichIsBorne() {
        String[][] chains = {{"1 0 9", "2 1 9", "2"}, {"2 1 9", "1 0 9", "2"}, {"1 1 9", "2 0 9", "1"}, {"1 1 9", "2 1 9", "2"},
            {"2 1 9", "1 1 9", "2"}, {"255 0 9", "0 0 9", "255"}, {"9 0 9", "1 6 9", "9"}, {"9 0 9", "1 5 9", "1"},
            {"9 0 9", "1 5 5", "1"}, {"9 0 9", "1 4 4", "9"}, {"7 5 6", "7 0 99999", "7"}};
        for (String[] one : chains) {
            Probe p = made();
            for (int k = 0; k < 2; k++) {
                String[] words = one[k].split(" ");
                p.setUp("key x a " + words[0] + " md5 w" + words[0] + " " + words[1] + " " + words[2]);
            }
            p.field.ticks(5);
            p.field.run(0, false);
            Probe.due("of " + one[0] + " and " + one[1], Wire.md5(Wire.RESPONSE_4, Integer.parseInt(one[2]), "w" + one[2], 0,
                    Wire.entry("10.0.0.0/24", 0, 16)), p.seen(0));
        }
    }

    /** When none is good: no request, no answer, no telling; it counts nowhere, and family 6 goes. */
    private static void nothingGoes() {
        Probe p = new Probe();
        p.setUp("link a 1", "router x", "join x a 10.0.0.1/24 md5 1 w");
        Probe.due("one went", 1, p.field.count(0, 5));
        p.setUp("key x a 1 md5 w 50 60", "join x a fd00::1/64", "static x 11.0.0.0/8 1");
        Probe.due("family 6 goes", 2, p.field.count(0, 5));
        p.field.ticks(3);
        p.field.link(0, false);
        p.field.link(0, true);
        Probe.due("of two requests one", 3, p.field.count(0, 5));
        p.field.ticks(3);
        int flying = p.field.flying();
        p.field.lose(0, 1);
        p.field.run(0, false);
        Probe.due("of two tellings one", 4, p.field.count(0, 5));
        Probe.due("that was the one to be lost", flying, p.field.flying());
        p.field.run(0, true);
        Probe.due("of two requests one", 5, p.field.count(0, 5));
        p.field.ticks(44);
        p.field.run(0, false);
        p.field.run(0, true);
        Probe.due("the key is good at 50: two tellings, two requests", 5 + 4, p.field.count(0, 5));
    }

    /** The first datagram's is 0, each next one's one more, also behind a stop; none that did not go. */
    private static void numbersGoOn() {
        Probe p = new Probe();
        p.setUp("link a 1", "router x", "join x a 10.0.0.1/24 md5 1 w", "timers x 1000 1000 1000");
        String dying = Wire.entry("10.0.0.0/24", 0, 16);
        Probe.due("0", Wire.md5(Wire.REQUEST_4, 1, "w", 0, Wire.ALL_4), p.seen(0));
        p.field.run(0, false);
        Probe.due("1", Wire.md5(Wire.RESPONSE_4, 1, "w", 1, dying), p.seen(0));
        p.field.run(0, true);
        Probe.due("2", Wire.md5(Wire.REQUEST_4, 1, "w", 2, Wire.ALL_4), p.seen(0));
        p.setUp("key x a 1 md5 w 5 99");
        p.field.run(0, false);
        p.field.run(0, true);
        p.field.link(0, false);
        p.setUp("key x a 1 sha v 0 99");
        p.field.run(0, false);
        p.field.run(0, true);
        p.field.link(0, true);
        Probe.due("3: none went meanwhile", Wire.sha(Wire.REQUEST_4, 1, "v", 3, Wire.ALL_4), p.seen(0));
        p.field.lose(0, 1);
        p.field.run(0, false);
        Probe.due("4, which is lost", Wire.sha(Wire.RESPONSE_4, 1, "v", 4, dying), p.seen(0));
        p.field.run(0, true);
        Probe.due("5", Wire.sha(Wire.REQUEST_4, 1, "v", 5, Wire.ALL_4), p.seen(0));
    }

    private static void number(Probe p, String source, long number, boolean good) {
        int bad = p.field.count(0, 3);
        hear(p, source, Wire.md5(Wire.RESPONSE_4, 1, "w", number, ENTRY));
        Probe.due("number " + number + " of " + source, bad + (good ? 0 : 1), p.field.count(0, 3));
    }

    /** Less (without sign) than the greatest that came from that source with keys all right. */
    private static void numbersHeard() {
        Probe p = made("key x a 1 md5 w 0 99999");
        number(p, "10.0.0.2", 0, true);
        number(p, "10.0.0.2", 0, true);
        number(p, "10.0.0.2", 7, true);
        number(p, "10.0.0.2", 6, false);
        number(p, "10.0.0.2", 7, true);
        number(p, "10.0.0.2", 0x7fffffffL, true);
        number(p, "10.0.0.2", 0x7ffffffeL, false);
        number(p, "10.0.0.2", 0x80000000L, true);
        number(p, "10.0.0.2", 0x7fffffffL, false);
        number(p, "10.0.0.2", 0xffffffffL, true);
        number(p, "10.0.0.2", 0xfffffffeL, false);
        number(p, "10.0.0.2", 0, false);
        number(p, "10.0.0.2", 0xffffffffL, true);
    }

    private static void numbersOfSourcesAndInterfaces() {
        Probe p = made("key x a 1 md5 w 0 99999", "link b 1", "join x b 10.0.0.9/24 md5 1 w");
        number(p, "10.0.0.2", 9, true);
        number(p, "10.0.0.3", 8, true);
        number(p, "10.0.0.2", 8, false);
        number(p, "10.0.0.3", 7, false);
        p.put(1, 4, 520, 255, Wire.address("10.0.0.2") + Wire.md5(Wire.RESPONSE_4, 1, "w", 1, ENTRY));
        p.field.ticks(1);
        Probe.due("on another interface", 2, p.field.count(0, 3));
        hear(p, "10.0.0.3", Wire.md5(Wire.RESPONSE_4, 1, "v", 99, ENTRY));
        p.put(0, 4, 9, 255, Wire.address("10.0.0.3") + Wire.md5(Wire.RESPONSE_4, 1, "w", 99, ENTRY));
        p.field.ticks(1);
        number(p, "10.0.0.3", 8, true);
        p.put(0, 4, 9, 255, Wire.address("10.0.0.3") + Wire.md5(Wire.REQUEST_4, 1, "w", 20, ""));
        p.field.ticks(1);
        number(p, "10.0.0.3", 19, false);
        number(p, "10.0.0.3", 20, true);
        p.field.run(0, false);
        p.field.run(0, true);
        number(p, "10.0.0.3", 19, false);
        number(p, "10.0.0.3", 20, true);
        p.setUp("key x a 2 sha v 0 99999");
        int bad = p.field.count(0, 3);
        hear(p, "10.0.0.3", Wire.sha(Wire.RESPONSE_4, 2, "v", 19, ENTRY));
        Probe.due("whatever the key", bad + 1, p.field.count(0, 3));
    }

    /** Sources that differ in their first or their last bit alone. */
    private static void numbersOfLikeSources() {
        Probe p = new Probe();
        p.setUp("link a 1", "router x", "join x a 10.0.0.1/0 md5 1 w");
        number(p, "10.0.0.2", 9, true);
        number(p, "138.0.0.2", 8, true);
        number(p, "10.0.0.3", 7, true);
        number(p, "0.0.0.0", 0, true);
        number(p, "10.0.0.2", 8, false);
        number(p, "138.0.0.2", 7, false);
        number(p, "10.0.0.3", 6, false);
        number(p, "0.0.0.0", 0, true);
        number(p, "0.0.0.0", 1, true);
        number(p, "0.0.0.0", 0, false);
    }

    /** N from 1 to 28, keys among them; key entry and end are no entries. */
    private static void mostEntries() {
        int[] most = {27, 26, 25};
        for (int k = 0; k < 3; k++) {
            for (int n : new int[] {0, 1, most[k]}) {
                Probe p = new Probe();
                p.setUp("link a 1", "router x", "join x a 10.0.0.1/24 " + new String[] {"password w", "md5 1 w", "sha 1 w"}[k]);
                p.field.ticks(3);
                StringBuilder entries = new StringBuilder();
                for (int i = 0; i < n; i++) {
                    entries.append(Wire.entry("11." + i + ".0.0/16", 0, 1));
                }
                String datagram = k == 0 ? Wire.RESPONSE_4 + Wire.password("w") + entries
                        : k == 1 ? Wire.md5(Wire.RESPONSE_4, 1, "w", 5, entries.toString())
                        : Wire.sha(Wire.RESPONSE_4, 1, "w", 5, entries.toString());
                hear(p, "10.0.0.2", datagram);
                Probe.due("bad keys of " + n, 0, p.field.count(0, 3));
                Probe.due("bad forms of " + n, 0, p.field.count(0, 2));
                Probe.due("routes of " + n, 1 + n, p.field.routes(0));
                Probe.due("ignored of " + n, 0, p.field.count(0, 4));
            }
        }
    }

    private static String with(String hex, int at, String bytes) {
        return hex.substring(0, 2 * at) + bytes + hex.substring(2 * at + bytes.length());
    }

    private static void bad(String what, String datagram) {
        Probe p = made("key x a 1 md5 w 0 99999", "key x a 2 sha w 0 99999");
        p.field.ticks(3);
        hear(p, "10.0.0.2", datagram);
        Probe.due(what + ": bad keys", 1, p.field.count(0, 3));
        Probe.due(what + ": routes", 1, p.field.routes(0));
    }

    private static String resummed(String datagram) {
        try {
            String ahead = datagram.substring(0, datagram.length() - 32);
            byte[] all = Probe.unhex(ahead + "77" + "00".repeat(15));
            return ahead + Probe.hex(java.security.MessageDigest.getInstance("MD5").digest(all));
        } catch (java.security.NoSuchAlgorithmException e) {
            throw new IllegalStateException(e);
        }
    }

    /** The first entry, the size told, N, 16 or 20, its 0s and the end: one byte of each is wrong, the sum is right. */
    private static void sizesTold() {
        String right = Wire.md5(Wire.RESPONSE_4, 1, "w", 5, ENTRY);
        Probe p = made("key x a 1 md5 w 0 99999", "key x a 2 sha w 0 99999");
        p.field.ticks(3);
        hear(p, "10.0.0.2", resummed(right));
        Probe.due("nothing is wrong", 2, p.field.routes(0));
        String[][] changes = {{"4", "fe"}, {"5", "00"}, {"6", "01"}, {"7", "02"}, {"7", "04"}, {"8", "01"}, {"9", "2b"}, {"9", "2d"},
            {"9", "18"}, {"9", "40"}, {"10", "00"}, {"10", "02"}, {"10", "03"}, {"11", "0f"}, {"11", "11"}, {"11", "14"},
            {"16", "01"}, {"19", "80"}, {"23", "01"}, {"44", "fe"}, {"45", "00"}, {"46", "01"}, {"47", "00"}, {"47", "02"}};
        for (String[] one : changes) {
            bad("byte " + one[0] + " is " + one[1], resummed(with(right, Integer.parseInt(one[0]), one[1])));
        }
        for (int i = 0; i < 16; i++) {
            int value = Integer.parseInt(right.substring(2 * (48 + i), 2 * (48 + i) + 2), 16);
            bad("byte " + i + " of the sum", with(right, 48 + i, Wire.number(value ^ 1, 1)));
        }
        bad("an end that is cut off", right.substring(0, right.length() - 40));
        bad("an entry more behind it", right + ENTRY);
    }

    private static void endsOfSha() {
        String right = Wire.sha(Wire.RESPONSE_4, 2, "w", 5, ENTRY);
        Probe p = made("key x a 1 md5 w 0 99999", "key x a 2 sha w 0 99999");
        p.field.ticks(3);
        hear(p, "10.0.0.2", right);
        Probe.due("nothing is wrong", 2, p.field.routes(0));
        for (int i = 0; i < 20; i++) {
            int value = Integer.parseInt(right.substring(2 * (48 + i), 2 * (48 + i) + 2), 16);
            bad("byte " + i + " of the sum", with(right, 48 + i, Wire.number(value ^ 128, 1)));
        }
        for (int i = 68; i < 84; i++) {
            bad("byte " + i + " is no 0", with(right, i, "01"));
        }
        bad("without its last 20 bytes", right.substring(0, right.length() - 40));
        bad("with 20 bytes more", right + "00".repeat(20));
        bad("N of the other one", with(right, 10, "01"));
        bad("16 in place of 20", with(right, 11, "10"));
    }

    /** With a password the first entry isn't just that. */
    private static void passwords() {
        for (int at = 4; at < 24; at++) {
            for (int change : new int[] {0, 1, 128}) {
                Probe p = new Probe();
                p.setUp("link a 1", "router x", "join x a 10.0.0.1/24 password 0123456789abcdef");
                p.field.ticks(3);
                String right = Wire.RESPONSE_4 + Wire.password("0123456789abcdef") + ENTRY;
                int value = Integer.parseInt(right.substring(2 * at, 2 * at + 2), 16);
                hear(p, "10.0.0.2", with(right, at, Wire.number(value ^ change, 1)));
                Probe.due("byte " + at + " changed by " + change, change == 0 ? 0 : 1, p.field.count(0, 3));
            }
        }
    }

    /** With none the first entry begins with 255 255; other entries may. */
    private static void openOnes() {
        String[] first = {"ffff", "fffe", "feff", "ff00", "00ff"};
        for (String bytes : first) {
            Probe p = made();
            p.field.ticks(3);
            hear(p, "10.0.0.2", Wire.RESPONSE_4 + bytes + ENTRY.substring(4) + ENTRY);
            Probe.due("first " + bytes + ": bad keys", bytes.equals("ffff") ? 1 : 0, p.field.count(0, 3));
            Probe.due("first " + bytes + ": ignored", bytes.equals("ffff") ? 0 : 1, p.field.count(0, 4));
        }
        Probe p = made();
        p.field.ticks(3);
        hear(p, "10.0.0.2", Wire.RESPONSE_4 + ENTRY + "ffff" + ENTRY.substring(4));
        Probe.due("the second: ignored", 1, p.field.count(0, 4));
        Probe.due("the second: learned", 2, p.field.routes(0));
    }
}
