/** Requests (promises 10, 15 and 17): for all, and for single prefixes. */
public final class RequestTest {
    public static void main(String[] args) {
        forAll();
        forSome();
        forSomeOfFamilySix();
        withKeys();
        Probe.finish();
    }

    private static Probe made(String options) {
        Probe p = new Probe();
        p.setUp("link a 1 mtu 84", "router x", "join x a 10.0.0.1/24 " + options, "join x a fd00::1/64",
                "static x 10.5.0.0/16 3 tag 9", "static x 1::/16 4 tag 8", "filter x out 10.6.0.0/16 deny",
                "static x 10.6.0.0/16 2", "redistribute x static 7");
        p.field.ticks(3);
        return p;
    }

    private static String asked(Probe p, String source, String datagram) {
        int family = source.contains(":") ? 6 : 4;
        p.put(0, family, 9, 9, Wire.address(source) + datagram);
        p.field.ticks(1);
        return p.seen(0);
    }

    private static void forAll() {
        Probe p = made("passive");
        String four = Wire.RESPONSE_4 + Wire.entry("10.5.0.0/16", 0, 7);
        Probe.due("all of family 4", four, asked(p, "10.0.0.2", Wire.REQUEST_4 + Wire.ALL_4));
        Probe.due("requests", 1, p.field.count(0, 8));
        String odd = "0000" + "ab".repeat(14) + "00000010";
        Probe.due("only family bytes and metric count", four, asked(p, "10.0.0.2", Wire.REQUEST_4 + odd));
        Probe.due("all of family 6", Wire.RESPONSE_6 + Wire.entry("1::/16", 0, 7),
                asked(p, "fd00::2", Wire.REQUEST_6 + Wire.ALL_6));
        p = new Probe();
        p.setUp("link a 1", "router x", "router y", "router z", "join x a 10.0.0.1/24", "static x 10.5.0.0/16 1",
                "join y a 10.0.0.2/24", "join z a 10.0.0.3/24");
        p.field.ticks(10);
        int came = p.field.count(2, 0);
        int cameToY = p.field.count(1, 0);
        p.put(0, 4, 520, 255, Wire.address("10.0.0.2") + Wire.REQUEST_4 + Wire.ALL_4);
        p.field.ticks(2);
        Probe.due("z got the request, but no answer: they go to the source alone", came + 1, p.field.count(2, 0));
        Probe.due("y got the request and the answers of x and z", cameToY + 3, p.field.count(1, 0));
    }

    private static void forSome() {
        Probe p = made("");
        String[] entries = {Wire.entry("10.5.0.0/16", 1, "10.9.9.9", 77), Wire.entry("10.6.0.0/16", 2, 0),
            Wire.entry("10.0.0.0/24", 0, 16), Wire.entry("10.5.0.0/17", 0, 1),
            "0003" + Wire.entry("10.5.0.0/16", 0, 1).substring(4),
            Wire.entry("10.5.0.0/16", 0, 1).replace("ffff0000", "ffff0001")};
        int[] metrics = {3, 2, 1, 16, 16, 16};
        StringBuilder want = new StringBuilder(Wire.RESPONSE_4);
        for (int i = 0; i < entries.length; i++) {
            want.append(entries[i].substring(0, 32)).append(Wire.number(metrics[i], 4));
        }
        // 124 bytes are more than M is, so the request goes where there is room, on another link.
        p.setUp("link b 1", "join x b 10.0.1.1/24");
        p.field.ticks(3);
        p.put(1, 4, 520, 255, Wire.address("10.0.1.2") + Wire.REQUEST_4 + String.join("", entries));
        p.field.ticks(1);
        Probe.due("the same with metrics", want.toString(), p.seen(1));
        Probe.due("one request", 1, p.field.count(0, 8));
        Probe.due("a single entry that is not for all", Wire.RESPONSE_4 + "0000" + "00".repeat(14) + "00000010",
                asked(p, "10.0.0.2", Wire.REQUEST_4 + "0000" + "00".repeat(14) + "00000011"));
        Probe.due("nor this one, of a prefix with metric 16", Wire.RESPONSE_4 + Wire.entry("10.5.0.0/16", 4, 3),
                asked(p, "10.0.0.2", Wire.REQUEST_4 + Wire.entry("10.5.0.0/16", 4, 16)));
        Probe.due("the metric has four bytes", Wire.RESPONSE_4 + Wire.entry("10.5.0.0/16", 4, 3),
                asked(p, "10.0.0.2", Wire.REQUEST_4 + Wire.entry("10.5.0.0/16", 4, 0x01020304)));
        Probe.due("for all twice is none for all", Wire.RESPONSE_4 + Wire.ALL_4 + Wire.ALL_4,
                asked(p, "10.0.0.2", Wire.REQUEST_4 + Wire.ALL_4 + Wire.ALL_4));
        p.setUp("nostatic x 10.5.0.0/16");
        Probe.due("one that is dying", Wire.RESPONSE_4 + Wire.entry("10.5.0.0/16", 5, 16),
                asked(p, "10.0.0.2", Wire.REQUEST_4 + Wire.entry("10.5.0.0/16", 5, 1)));
    }

    private static void forSomeOfFamilySix() {
        Probe p = made("");
        Probe.due("family 6", Wire.RESPONSE_6 + Wire.entry("1::/16", 5, 4) + Wire.entry("fd00::/64", 6, 1),
                asked(p, "fd00::2", Wire.REQUEST_6 + Wire.entry("1::/16", 5, 255) + Wire.entry("fd00::/64", 6, 9)));
        Probe.due("no prefixes", Wire.RESPONSE_6 + Wire.entry("1::/129", 5, 16) + Wire.entry("1::/15", 6, 16),
                asked(p, "fd00::2", Wire.REQUEST_6 + Wire.entry("1::/129", 5, 4) + Wire.entry("1::/15", 6, 4)));
        Probe.due("for all needs all 0s", Wire.RESPONSE_6 + Wire.entry("::/0", 1, 16),
                asked(p, "fd00::2", Wire.REQUEST_6 + Wire.entry("::/0", 1, 16)));
    }

    private static void withKeys() {
        Probe p = new Probe();
        p.setUp("link a 1", "router x", "join x a 10.0.0.1/24 md5 1 one", "key x a 2 sha two 0 99999",
                "static x 10.5.0.0/16 3");
        p.field.ticks(3);
        String entries = Wire.entry("10.5.0.0/16", 0, 9).repeat(26);
        String answer = Wire.entry("10.5.0.0/16", 0, 3).repeat(26);
        Probe.due("keys anew, whatever M", Wire.sha(Wire.RESPONSE_4, 2, "two", 2, answer),
                asked(p, "10.0.0.2", Wire.md5(Wire.REQUEST_4, 1, "one", 0, entries)));
        Probe.due("584 bytes", 584, p.field.seen(0));
        p.setUp("router y", "join y a 10.0.0.2/24 md5 1 one sha 2 two");
        p.field.ticks(5);
        asked(p, "10.0.0.2", Wire.md5(Wire.REQUEST_4, 1, "one", 50, entries));
        int bad = p.field.count(1, 2);
        p.field.ticks(1);
        Probe.due("which are 29 entries, a bad form", bad + 1, p.field.count(1, 2));
        p = new Probe();
        p.setUp("link a 1", "router x", "join x a 10.0.0.1/24 md5 1 one", "key x a 2 sha two 0 99999",
                "static x 10.5.0.0/16 3");
        p.field.ticks(6);
        Probe.due("for all with keys", Wire.sha(Wire.RESPONSE_4, 2, "two", 2, Wire.entry("10.5.0.0/16", 0, 3)),
                asked(p, "10.0.0.2", Wire.md5(Wire.REQUEST_4, 1, "one", 0, Wire.ALL_4)));
        p = new Probe();
        p.setUp("link a 1", "router x", "join x a 10.0.0.1/24 password pw", "static x 10.5.0.0/16 3");
        p.field.ticks(3);
        Probe.due("a password", Wire.RESPONSE_4 + Wire.password("pw") + Wire.entry("10.5.0.0/16", 0, 3).repeat(27),
                asked(p, "10.0.0.2", Wire.REQUEST_4 + Wire.password("pw") + Wire.entry("10.5.0.0/16", 0, 1).repeat(27)));
    }
}
