/** Promises 10, 15, 16 and 17: put, seen, textAt, and what is counted of what comes. */
public final class PutTest {
    private static final String TWO = Wire.address("10.0.0.2");
    private static final String TWO_6 = Wire.address("fd00::2");

    public static void main(String[] args) {
        answers();
        seen();
        sources();
        forms();
        portsAndHops();
        whoHears();
        manyOnTheirWay();
        counts();
        Probe.finish();
    }

    private static Probe made() {
        Probe p = new Probe();
        p.setUp("link a 1", "link b 1 mtu 100", "router x", "join x a 10.0.0.1/24", "join x a fd00::1/64");
        p.field.ticks(3);
        return p;
    }

    private static void answers() {
        Probe p = made();
        Probe.due("no address", false, p.put(0, 4, 520, 255, "0a0000"));
        Probe.due("an address alone", true, p.put(0, 4, 520, 255, TWO));
        Probe.due("no bytes", 0, p.field.seen(0));
        Probe.due("no address of family 6", false, p.put(0, 6, 520, 255, "00".repeat(15)));
        Probe.due("one of family 6", true, p.put(0, 6, 520, 255, "00".repeat(16)));
        Probe.due("family 5", false, p.put(0, 5, 520, 255, TWO));
        Probe.due("no link", false, p.put(2, 4, 520, 255, TWO));
        Probe.due("no link below 0", false, p.put(-1, 4, 520, 255, TWO));
        Probe.due("the tape is empty then", false, p.field.put(0, 4, 520, 255));
        Probe.due("564 bytes", true, p.put(0, 4, 520, 255, TWO + "00".repeat(564)));
        Probe.due("565 bytes", false, p.put(0, 4, 520, 255, TWO + "00".repeat(565)));
        Probe.due("565 bytes of family 6", false, p.put(0, 6, 520, 255, TWO_6 + "00".repeat(565)));
        Probe.due("M bytes", true, p.put(1, 4, 520, 255, TWO + "00".repeat(100)));
        Probe.due("more than M", false, p.put(1, 4, 520, 255, TWO + "00".repeat(101)));
        p.field.link(1, false);
        Probe.due("a link that is down", false, p.put(1, 4, 520, 255, TWO));
    }

    private static void seen() {
        Probe p = made();
        Probe.due("none went on b", "", p.seen(1));
        Probe.due("no such link", "NONE", p.seen(2));
        Probe.due("no such link below 0", "NONE", p.seen(-1));
        p.put(1, 4, 520, 255, TWO + "00ff80");
        Probe.due("what was put, without its source", "00ff80", p.seen(1));
        Probe.due("textAt(1)", 255, p.field.textAt(1));
        for (int i : new int[] {-1, 3, Integer.MIN_VALUE, Integer.MAX_VALUE}) {
            int thrown = 0;
            try {
                p.field.textAt(i);
            } catch (java.util.NoSuchElementException e) {
                thrown = 1;
            }
            Probe.due("textAt(" + i + ") throws", 1, thrown);
        }
        p.field.seen(2);
        Probe.due("the text stays", "00ff80", Probe.hex(p.bytes(3)));
        p.field.link(1, false);
        Probe.due("also behind its going down", "00ff80", p.seen(1));
    }

    private static void sources() {
        Probe p = made();
        String response = Wire.RESPONSE_4 + Wire.entry("10.5.0.0/16", 0, 1);
        p.put(0, 4, 520, 255, Wire.address("10.0.1.2") + response);
        p.put(0, 4, 520, 255, Wire.address("10.0.0.1") + response);
        p.put(0, 6, 521, 255, Wire.address("fd00:0:0:1::2") + Wire.RESPONSE_6 + Wire.entry("1::/16", 0, 1));
        p.field.ticks(1);
        Probe.due("came", 3, p.field.count(0, 0));
        Probe.due("bad sources", 3, p.field.count(0, 1));
        Probe.due("nothing learned", 2, p.field.routes(0));
        p.put(0, 4, 0, 0, Wire.address("10.0.1.2") + "00");
        p.field.ticks(1);
        Probe.due("a bad source is that first of all", 4, p.field.count(0, 1));
    }

    private static void bad(String what, int count, int family, int port, int hops, String datagram) {
        Probe p = made();
        p.put(0, family, port, hops, (family == 4 ? TWO : TWO_6) + datagram);
        p.field.ticks(1);
        for (int i = 1; i <= 10; i++) {
            if (i != 5 && i != 6 && i != 7) {
                Probe.due(what + ": count " + i, i == count ? 1 : 0, p.field.count(0, i));
            }
        }
    }

    private static void forms() {
        String entry = Wire.entry("10.5.0.0/16", 0, 1);
        String six = Wire.entry("1::/16", 0, 1);
        bad("no bytes", 2, 4, 520, 255, "");
        bad("a head alone", 2, 4, 520, 255, Wire.RESPONSE_4);
        bad("three bytes", 2, 4, 520, 255, "020200");
        bad("a byte less", 2, 4, 520, 255, Wire.RESPONSE_4 + entry.substring(2));
        bad("a byte more", 2, 4, 520, 255, Wire.RESPONSE_4 + entry + "00");
        bad("command 0", 2, 4, 520, 255, "00020000" + entry);
        bad("command 3", 2, 4, 520, 255, "03020000" + entry);
        bad("version 1", 2, 4, 520, 255, "02010000" + entry);
        bad("version 2 of family 6", 2, 6, 521, 255, "02020000" + six);
        bad("no 0s", 2, 4, 520, 255, "02020100" + entry);
        bad("no 0 at the end", 2, 4, 520, 255, "02020001" + entry);
        bad("28 entries", 0, 4, 520, 255, Wire.RESPONSE_4 + entry.repeat(28));
        bad("25 entries of family 6", 0, 6, 521, 255, Wire.RESPONSE_6 + six.repeat(25));
        bad("26 entries of family 6", 2, 6, 521, 255, Wire.RESPONSE_6 + six.repeat(26));
        bad("a bad form of another port", 2, 4, 1, 255, Wire.RESPONSE_4);
    }

    private static void portsAndHops() {
        String entry = Wire.entry("10.5.0.0/16", 0, 1);
        String six = Wire.entry("1::/16", 0, 1);
        bad("another port", 9, 4, 521, 255, Wire.RESPONSE_4 + entry);
        bad("another port of family 6", 9, 6, 520, 254, Wire.RESPONSE_6 + six);
        bad("other hops", 10, 6, 521, 254, Wire.RESPONSE_6 + six);
        bad("other hops of family 4", 0, 4, 520, 1, Wire.RESPONSE_4 + entry);
        bad("a key where none is", 3, 4, 520, 255, Wire.RESPONSE_4 + Wire.password("x") + entry);
        bad("a request of another port", 8, 4, 1, 255, Wire.REQUEST_4 + Wire.ALL_4);
        bad("a request of other hops", 8, 6, 1, 1, Wire.REQUEST_6 + Wire.ALL_6);
        bad("an entry that is ignored", 4, 4, 520, 255, Wire.RESPONSE_4 + Wire.entry("10.5.0.0/16", 0, 17));
    }

    private static void whoHears() {
        Probe p = new Probe();
        p.setUp("link a 1", "link b 1", "router x", "router y", "router z", "router w", "join x a 10.0.0.1/24",
                "join y a fd00::2/64", "join z b 10.0.0.3/24", "join w a 10.0.0.4/24");
        p.field.run(3, false);
        p.field.ticks(3);
        int[] came = {p.field.count(0, 0), p.field.count(1, 0), p.field.count(2, 0), p.field.count(3, 0)};
        p.put(0, 4, 520, 255, Wire.address("10.0.0.9") + "00");
        p.field.ticks(1);
        Probe.due("x", came[0] + 1, p.field.count(0, 0));
        Probe.due("y has no address of the family", came[1], p.field.count(1, 0));
        Probe.due("z is on another link", came[2], p.field.count(2, 0));
        Probe.due("w stands still", came[3], p.field.count(3, 0));
    }

    /** Router x tells 8 datagrams to all and to each of 4 neighbors, each tick from 30 to 35. */
    private static void manyOnTheirWay() {
        Probe p = new Probe();
        p.setUp("link a 5 mtu 84", "link b 5", "router x", "timers x 1 180 120", "join x a 10.0.0.1/24",
                "neighbor x a 10.0.0.2", "neighbor x a 10.0.0.3", "neighbor x a 10.0.0.4", "neighbor x a 10.0.0.5",
                "router y");
        p.setUpMany(32, "static x 11.%d.0.0/16 1");
        p.field.ticks(34);
        p.setUp("timers x 1000 180 120");
        p.field.ticks(1);
        Probe.due("those of 31 to 35", 200, p.field.flying());
        for (int i = 0; i < 56; i++) {
            Probe.due("flying", 200 + i, p.field.flying());
            Probe.due("put", true, p.put(1, 4, 520, 255, TWO + "aa"));
        }
        Probe.due("256 on all links", 256, p.field.flying());
        Probe.due("one more is lost, which is true as well", true, p.put(1, 4, 520, 255, TWO + "bb"));
        Probe.due("still 256", 256, p.field.flying());
        Probe.due("it is seen", "bb", p.seen(1));
        p.field.lose(1, 1);
        p.setUp("join y b 10.0.1.1/24");
        Probe.due("a request goes", 1, p.field.count(1, 5));
        Probe.due("and is lost", 256, p.field.flying());
        p.field.ticks(5);
        Probe.due("all came", 0, p.field.flying());
        Probe.due("those put came to y", 56, p.field.count(1, 0));
        p.setUp("join y b fd00::1/64");
        Probe.due("that was none of those told to be lost: this one is", 0, p.field.flying());
        p.field.run(1, false);
        Probe.due("and these two are not", 2, p.field.flying());
    }

    private static void counts() {
        Probe p = made();
        Probe.due("count of none", -1, p.field.count(1, 0));
        Probe.due("count below 0", -1, p.field.count(-1, 0));
        Probe.due("count 11", -1, p.field.count(0, 11));
        Probe.due("count -1", -1, p.field.count(0, -1));
        Probe.due("requests sent", 2, p.field.count(0, 5));
        Probe.due("triggers", 1, p.field.count(0, 6));
        Probe.due("changes", 2, p.field.count(0, 7));
    }
}
