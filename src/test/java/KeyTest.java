/** Keys of family 4 (promises 10, 15 and 17): passwords, md5 and sha, sent and heard. */
public final class KeyTest {
    private static final String ENTRY = Wire.entry("10.5.0.0/16", 0, 1);
    private static final String TWO = Wire.address("10.0.0.2");

    public static void main(String[] args) {
        sent();
        bearers();
        numbers();
        heardPassword();
        heardMd5();
        heardSha();
        heardNumbers();
        goodOnly();
        familySix();
        sizes();
        Probe.finish();
    }

    private static Probe made(String keys, String... more) {
        Probe p = new Probe();
        p.setUp("link a 1", "router x", "join x a 10.0.0.1/24 " + keys);
        p.setUp(more);
        return p;
    }

    private static void sent() {
        Probe.due("password", Wire.REQUEST_4 + Wire.password("abc") + Wire.ALL_4, made("password abc").seen(0));
        Probe.due("a long password", Wire.REQUEST_4 + Wire.password("1234567890123456") + Wire.ALL_4,
                made("password 1234567890123456").seen(0));
        Probe.due("md5", Wire.md5(Wire.REQUEST_4, 255, "abc", 0, Wire.ALL_4), made("md5 255 abc").seen(0));
        Probe.due("sha", Wire.sha(Wire.REQUEST_4, 0, "1234567890123456", 0, Wire.ALL_4),
                made("sha 0 1234567890123456").seen(0));
        // Sums of 1 to 25 entries: ends of blocks at all places.
        for (int n = 1; n <= 25; n++) {
            for (String kind : new String[] {"md5", "sha"}) {
                Probe p = made(kind + " 7 w!~");
                StringBuilder entries = new StringBuilder();
                for (int i = 0; i < n; i++) {
                    p.setUp("static x 11." + i + ".0.0/16 1 tag " + (i * 2521));
                    entries.append(Wire.entry("11." + i + ".0.0/16", i * 2521, 1));
                }
                boolean md5 = kind.equals("md5");
                int most = md5 ? 24 : 23;
                int number = 1 + (n - 1) / most;
                String last = entries.substring((number - 1) * most * 40);
                p.field.ticks(1);
                Probe.due(kind + " of " + n, md5 ? Wire.md5(Wire.RESPONSE_4, 7, "w!~", number, last)
                        : Wire.sha(Wire.RESPONSE_4, 7, "w!~", number, last), p.seen(0));
            }
        }
    }

    private static void bearers() {
        Probe p = made("md5 1 one", "key x a 2 sha two 0 99999", "key x a 9 md5 nine 3 5", "key x a 3 sha three 3 4",
                "static x 10.5.0.0/16 1");
        String[] want = {"", Wire.sha(Wire.RESPONSE_4, 2, "two", 1, ENTRY), "",
            Wire.md5(Wire.RESPONSE_4, 9, "nine", 2, Wire.entry("10.5.0.0/16", 0, 2))};
        p.field.ticks(1);
        Probe.due("of the same FROM the greatest N", want[1], p.seen(0));
        p.setUp("static x 10.5.0.0/16 2");
        p.field.ticks(2);
        Probe.due("the greatest FROM, then the greatest N", want[3], p.seen(0));
        p.setUp("key x a 9 md5 nine 0 2", "static x 10.5.0.0/16 3");
        p.field.ticks(3);
        Probe.due("one that is good no more", Wire.sha(Wire.RESPONSE_4, 2, "two", 3, Wire.entry("10.5.0.0/16", 0, 3)),
                p.seen(0));
        p = made("", "key x a 1 md5 one 5 6", "timers x 1 100 100", "static x 10.5.0.0/16 1");
        p.field.ticks(4);
        Probe.due("none is good: only the open request", 1, p.field.count(0, 5));
        p.field.ticks(27);
        Probe.due("still none", 1, p.field.count(0, 5));
        p = made("", "key x a 1 md5 one 30 31", "timers x 1 100 100", "static x 10.5.0.0/16 1");
        p.field.ticks(29);
        Probe.due("not yet", 1, p.field.count(0, 5));
        p.field.ticks(10);
        Probe.due("from FROM to TO", 3, p.field.count(0, 5));
        Probe.due("the last", Wire.md5(Wire.RESPONSE_4, 1, "one", 1, ENTRY), p.seen(0));
    }

    /** The number is the interface's own, one more each time, also behind a stop. */
    private static void numbers() {
        Probe p = made("md5 1 one", "static x 10.5.0.0/16 1");
        p.field.ticks(1);
        Probe.due("1", Wire.md5(Wire.RESPONSE_4, 1, "one", 1, ENTRY), p.seen(0));
        p.field.lose(0, 1);
        p.field.run(0, false);
        p.field.run(0, true);
        Probe.due("3, also behind a lost one", Wire.md5(Wire.REQUEST_4, 1, "one", 3, Wire.ALL_4), p.seen(0));
        p.setUp("link b 1", "join x b 10.0.1.1/24 sha 4 four");
        Probe.due("b has its own", Wire.sha(Wire.REQUEST_4, 4, "four", 0, Wire.ALL_4), p.seen(1));
        p.setUp("neighbor x a 10.0.0.8", "neighbor x a 10.0.0.9");
        p.field.ticks(2);
        Probe.due("each neighbor's is one more", Wire.md5(Wire.RESPONSE_4, 1, "one", 6,
                Wire.entry("10.0.1.0/24", 0, 1) + ENTRY), p.seen(0));
    }

    private static void hears(String what, String keys, boolean right, String datagram) {
        Probe p = made(keys);
        p.field.ticks(5);
        Probe.due(what + ": put", true, p.put(0, 4, 520, 255, TWO + datagram));
        p.field.ticks(1);
        Probe.due(what + ": bad keys", right ? 0 : 1, p.field.count(0, 3));
        Probe.due(what + ": learned", right ? 2 : 1, p.field.routes(0));
        Probe.due(what + ": ignored", 0, p.field.count(0, 4));
    }

    private static String with(String hex, int at, String bytes) {
        return hex.substring(0, 2 * at) + bytes + hex.substring(2 * at + bytes.length());
    }

    private static void heardPassword() {
        String right = Wire.RESPONSE_4 + Wire.password("abc") + ENTRY;
        hears("right", "password abc", true, right);
        hears("of 27 entries", "password abc", true, Wire.RESPONSE_4 + Wire.password("abc") + ENTRY.repeat(27));
        hears("longer", "password abc", false, Wire.RESPONSE_4 + Wire.password("abcd") + ENTRY);
        hears("shorter", "password abc", false, Wire.RESPONSE_4 + Wire.password("ab") + ENTRY);
        hears("another", "password abc", false, Wire.RESPONSE_4 + Wire.password("xbc") + ENTRY);
        hears("its last byte", "password abc", false, with(right, 23, "01"));
        hears("none", "password abc", false, Wire.RESPONSE_4 + ENTRY);
        hears("another sort", "password abc", false, with(right, 7, "03"));
        hears("no key entry", "password abc", false, with(right, 4, "fffe"));
        hears("where none is", "", false, right);
        hears("where a chain is", "md5 1 abc", false, right);
        Probe p = made("password abc");
        p.field.ticks(5);
        p.put(0, 4, 520, 255, TWO + Wire.REQUEST_4 + Wire.password("abc"));
        p.field.ticks(1);
        Probe.due("a request without entries is none", 0, p.field.count(0, 8));
        Probe.due("but came", 0, p.field.count(0, 3));
    }

    private static void heardMd5() {
        String right = Wire.md5(Wire.RESPONSE_4, 5, "abc", 0, ENTRY);
        String keys = "md5 5 abc sha 6 def";
        hears("md5", keys, true, right);
        hears("26 entries", keys, true, Wire.md5(Wire.RESPONSE_4, 5, "abc", 0, ENTRY.repeat(26)));
        hears("another word", keys, false, Wire.md5(Wire.RESPONSE_4, 5, "abd", 0, ENTRY));
        hears("another N", keys, false, Wire.md5(Wire.RESPONSE_4, 7, "abc", 0, ENTRY));
        hears("N of the other sort", keys, false, Wire.md5(Wire.RESPONSE_4, 6, "def", 0, ENTRY));
        hears("an entry changed", keys, false, with(right, 24 + 19, "02"));
        hears("the sum changed", keys, false, with(right, 24 + 20 + 19, right.endsWith("00") ? "01" : "00"));
        hears("its first byte changed", keys, false, with(right, 24 + 20 + 4, "00").equals(right)
                ? with(right, 24 + 20 + 4, "01") : with(right, 24 + 20 + 4, "00"));
        hears("no key", keys, false, Wire.RESPONSE_4 + ENTRY);
        hears("the number changed", keys, false, with(right, 15, "01"));
        hears("a size that is wrong", keys, false, resummed(with(right, 9, "40")));
        hears("a size that is smaller", keys, false, resummed(with(right, 9, "18")));
        hears("20 in place of 16", keys, false, resummed(with(right, 11, "14")));
        hears("no 0s", keys, false, resummed(with(right, 23, "01")));
        hears("no 0s at first", keys, false, resummed(with(right, 16, "01")));
        hears("another end", keys, false, resummed(with(right, 44 + 3, "02")));
        hears("another sort", keys, false, resummed(with(right, 7, "02")));
        hears("no mark", keys, false, resummed(with(right, 4, "0002")));
        hears("where none is", "", false, right);
        Probe p = made(keys);
        p.field.ticks(5);
        p.put(0, 4, 520, 255, TWO + Wire.md5(Wire.RESPONSE_4, 5, "abc", 0, ""));
        p.put(0, 4, 520, 255, TWO + Wire.md5(Wire.REQUEST_4, 5, "abc", 0, ""));
        p.put(0, 4, 520, 255, TWO + Wire.md5(Wire.RESPONSE_4, 5, "abc", 0, "").substring(0, 48));
        p.field.ticks(1);
        Probe.due("keys without entries are right", 1, p.field.count(0, 3));
        Probe.due("and no request", 0, p.field.count(0, 8));
    }

    /** The same datagram with a sum that is right for its bytes. */
    private static String resummed(String datagram) {
        try {
            String ahead = datagram.substring(0, datagram.length() - 32);
            byte[] all = Probe.unhex(ahead + "616263" + "00".repeat(13));
            return ahead + Probe.hex(java.security.MessageDigest.getInstance("MD5").digest(all));
        } catch (java.security.NoSuchAlgorithmException e) {
            throw new IllegalStateException(e);
        }
    }

    private static void heardSha() {
        String right = Wire.sha(Wire.RESPONSE_4, 6, "def", 0, ENTRY);
        String keys = "md5 5 abc sha 6 def";
        hears("sha", keys, true, right);
        hears("25 entries", keys, true, Wire.sha(Wire.RESPONSE_4, 6, "def", 0, ENTRY.repeat(25)));
        hears("another word", keys, false, Wire.sha(Wire.RESPONSE_4, 6, "deg", 0, ENTRY));
        hears("no 0 at the end", keys, false, with(right, 83, "01"));
        hears("no 0 behind the sum", keys, false, with(right, 68, "01"));
        hears("16 in place of 20", keys, false, with(right, 11, "10"));
        hears("a short one", keys, false, right.substring(0, 88));
        hears("a shorter one", keys, false, right.substring(0, 48));
        hears("md5 with its N", keys, false, Wire.md5(Wire.RESPONSE_4, 6, "def", 0, ENTRY));
    }

    private static int bad(Probe p, String source, long number) {
        p.put(0, 4, 520, 255, Wire.address(source) + Wire.md5(Wire.RESPONSE_4, 1, "one", number, ENTRY));
        p.field.ticks(1);
        return p.field.count(0, 3);
    }

    private static void heardNumbers() {
        Probe p = made("md5 1 one");
        Probe.due("5", 0, bad(p, "10.0.0.2", 5));
        Probe.due("5 again", 0, bad(p, "10.0.0.2", 5));
        Probe.due("4", 1, bad(p, "10.0.0.2", 4));
        Probe.due("4 of another source", 1, bad(p, "10.0.0.3", 4));
        Probe.due("without sign", 1, bad(p, "10.0.0.2", 0x80000000L));
        Probe.due("the greatest one below that", 2, bad(p, "10.0.0.2", 0x7fffffffL));
        Probe.due("the greatest", 2, bad(p, "10.0.0.2", 0xffffffffL));
        p.put(0, 4, 520, 255, Wire.address("10.0.0.3") + Wire.md5(Wire.RESPONSE_4, 1, "two", 9, ENTRY));
        p.field.ticks(1);
        Probe.due("a wrong sum", 3, p.field.count(0, 3));
        Probe.due("tells no number", 3, bad(p, "10.0.0.3", 5));
        for (int i = 4; i < 12; i++) {
            Probe.due("many sources", 3, bad(p, "10.0.0." + i, 100 + i));
        }
        Probe.due("each has its own", 4, bad(p, "10.0.0.11", 110));
        Probe.due("the first, too", 5, bad(p, "10.0.0.2", 0xfffffffeL));
        for (int i = 4; i < 12; i++) {
            Probe.due("and all others", 2 + i, bad(p, "10.0.0." + i, 99 + i));
        }
        p.field.run(0, false);
        p.field.run(0, true);
        Probe.due("stops or not", 14, bad(p, "10.0.0.11", 110));
        p.setUp("nokey x a", "key x a 1 md5 one 0 99999");
        Probe.due("since the interface was there", 15, bad(p, "10.0.0.11", 110));
        Probe.due("111", 15, bad(p, "10.0.0.11", 111));
    }

    private static void goodOnly() {
        Probe p = made("", "key x a 1 md5 one 5 6");
        p.field.ticks(3);
        Probe.due("at 4", 1, bad(p, "10.0.0.2", 0));
        Probe.due("at 5", 1, bad(p, "10.0.0.2", 0));
        Probe.due("at 6", 1, bad(p, "10.0.0.2", 0));
        Probe.due("at 7", 2, bad(p, "10.0.0.2", 0));
        p.setUp("key x a 2 md5 two 0 99", "key x a 3 md5 three 0 99", "key x a 4 md5 four 0 99");
        p.put(0, 4, 520, 255, TWO + Wire.md5(Wire.RESPONSE_4, 5, "five", 9, ENTRY));
        p.field.ticks(1);
        Probe.due("N of none of four", 3, p.field.count(0, 3));
    }

    private static void familySix() {
        Probe p = made("password abc", "join x a fd00::1/64");
        Probe.due("family 6 has no keys", Wire.REQUEST_6 + Wire.ALL_6, p.seen(0));
        p.put(0, 6, 521, 255, Wire.address("fd00::2") + Wire.RESPONSE_6 + Wire.entry("1::/16", 0, 1));
        p.field.ticks(2);
        Probe.due("nor looks for them", "1::/16 2 via fd00::2 a", p.way(0, "1::1"));
        p.setUp("key x a 1 md5 one 900 901", "static x 2::/16 1");
        p.field.ticks(5);
        Probe.due("it goes when no key is good", Wire.RESPONSE_6 + Wire.entry("2::/16", 0, 1), p.seen(0));
    }

    /** With md5 at most 24 other entries, with sha 23; fewer when M has no room. */
    private static void sizes() {
        String[] keys = {"md5 1 w", "sha 1 w"};
        int[][] room = {{576, 24, 23}, {144, 5, 4}, {143, 4, 3}, {84, 2, 1}};
        for (int k = 0; k < 2; k++) {
            for (int[] one : room) {
                Probe p = new Probe();
                p.setUp("link a 1 mtu " + one[0], "router x", "join x a 10.0.0.1/24 " + keys[k]);
                for (int i = 0; i < 30; i++) {
                    p.setUp("static x 11." + i + ".0.0/16 1");
                }
                p.field.ticks(1);
                int most = one[1 + k];
                Probe.due(keys[k] + " with " + one[0], 1 + (30 + most - 1) / most, p.field.count(0, 5));
            }
        }
    }
}
