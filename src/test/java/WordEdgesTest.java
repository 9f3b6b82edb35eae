/** Promises 4 and 5 at their bounds: names, numbers, words W, prefixes, and which fault comes first. */
public final class WordEdgesTest {
    public static void main(String[] args) {
        names();
        sameNames();
        numbers();
        fromAndTo();
        lengthsOfLists();
        secrets();
        blanks();
        nothing();
        wordCounts();
        choices();
        options();
        faultsFromTheLeft();
        linesThatFailDoNothing();
        lineNumbers();
        addressNumbers();
        prefixLengths();
        Probe.finish();
    }

    private static Probe made() {
        Probe p = new Probe();
        p.setUp("link a 1", "link b 1", "link c 1", "router x", "router y", "join x a 10.0.0.1/24", "list n permit ::/0");
        return p;
    }

    private static void at(String line, int want) {
        made().fault(line, want);
    }

    /** Names: 1 to 12 letters a .. z and digits. */
    private static void names() {
        String[] right = {"q", "0", "9", "z", "az09", "abcdefghijkl", "012345678901"};
        String[] wrong = {"abcdefghijklm", "0123456789012", "`", "{", "/", ":", "A", "Z", "@", "[", "-", "q_", "_q", "qQ",
            "*", "q.", "\u00e9", "q\u0080", "q\u0001", "q#"};
        for (String name : right) {
            at("link " + name + " 1", 0);
            at("router " + name, 0);
            at("list " + name + " permit ::/0", 0);
        }
        for (String name : wrong) {
            at("link " + name + " 1", 3);
            at("router " + name, 3);
            at("list " + name + " permit ::/0", 3);
        }
    }

    /** Links, routers, lists each have their own. */
    private static void sameNames() {
        Probe p = new Probe();
        p.setUp("link a 1", "router a", "list a permit ::/0", "join a a fd00::1/64", "distribute a in a a");
        p.fault("link a 1", 3);
        p.fault("router a", 3);
        p.fault("list a permit ::/0", 0);
        Probe q = made();
        q.fault("join a a 10.0.0.2/24", 3);
        q.fault("join x x 10.0.0.2/24", 3);
        q.fault("distribute x in n n", 3);
        q.fault("distribute x in a a", 3);
    }

    /** A number from least to most: just inside, just outside, with 1 to 6 digits. */
    private static void bounds(String line, int least, int most) {
        at(line.replace("%", String.valueOf(least - 1)), 4);
        at(line.replace("%", String.valueOf(least)), 0);
        at(line.replace("%", String.valueOf(most)), 0);
        at(line.replace("%", String.valueOf(most + 1)), 4);
        String ahead = "0000000" + most;
        at(line.replace("%", ahead.substring(ahead.length() - 6)), 0);
        at(line.replace("%", ahead.substring(ahead.length() - 7)), 4);
        at(line.replace("%", "999999"), 4);
        at(line.replace("%", "1000000"), 4);
        at(line.replace("%", "4294967297"), 4);
        at(line.replace("%", most + "x"), 4);
        at(line.replace("%", "+" + most), 4);
        at(line.replace("%", most + "."), 4);
        // The bytes beside the digits.
        for (String one : new String[] {"/", ":", "1/", "1:", "0/", "0:", "/1", ":1"}) {
            at(line.replace("%", one), 4);
        }
    }

    private static void numbers() {
        bounds("link q %", 1, 5);
        bounds("link q 1 jitter %", 0, 4);
        bounds("link q 1 mtu %", 84, 576);
        bounds("link q 1 mtu % jitter 0", 84, 576);
        bounds("join y a 10.0.0.2/24 cost %", 1, 15);
        bounds("join y a 10.0.0.2/24 md5 % w", 0, 255);
        bounds("join y a 10.0.0.2/24 sha % w", 0, 255);
        bounds("key x a % md5 w 0 1", 0, 255);
        bounds("key x a % sha w 0 1", 0, 255);
        bounds("key x a 1 md5 w % 99999", 0, 99999);
        bounds("key x a 1 md5 w 0 %", 0, 99999);
        bounds("static x 10.9.0.0/16 %", 1, 15);
        bounds("static x 10.9.0.0/16 % tag 1", 1, 15);
        bounds("static x 10.9.0.0/16 1 tag %", 0, 65535);
        bounds("list n permit 10.0.0.0/8 ge %", 8, 32);
        bounds("list n permit 10.0.0.0/8 le %", 8, 32);
        bounds("list n permit fd00::/16 ge %", 16, 128);
        bounds("list n permit fd00::/16 le %", 16, 128);
        bounds("list n permit 0.0.0.0/0 ge %", 0, 32);
        bounds("list n permit ::/0 le %", 0, 128);
        bounds("list n permit 10.0.0.1/32 ge %", 32, 32);
        bounds("list n permit ::1/128 le %", 128, 128);
        bounds("offset x in * n %", 1, 15);
        bounds("offset x out a n %", 1, 15);
        bounds("redistribute x connected %", 1, 15);
        bounds("redistribute x static % tag 1", 1, 15);
        bounds("redistribute x static 5 tag %", 0, 65535);
        bounds("redistribute x connected own tag %", 0, 65535);
        bounds("redistribute x static off tag %", 0, 65535);
        bounds("default x a %", 1, 15);
        bounds("default x a % only", 1, 15);
        bounds("timers x % 1 1", 1, 1000);
        bounds("timers x 1 % 1", 1, 1000);
        bounds("timers x 1 1 %", 1, 1000);
    }

    /** FROM not above TO. */
    private static void fromAndTo() {
        at("key x a 1 md5 w 7 7", 0);
        at("key x a 1 md5 w 8 7", 4);
        at("key x a 1 sha w 0 0", 0);
        at("key x a 1 sha w 1 0", 4);
        at("key x a 1 sha w 99999 99999", 0);
        at("key x a 1 sha w 99999 99998", 4);
    }

    /** From the prefix's length to 32 or 128, ge not above le; options in any order. */
    private static void lengthsOfLists() {
        at("list n permit 10.0.0.0/8 ge 9 le 9", 0);
        at("list n permit 10.0.0.0/8 ge 10 le 9", 4);
        at("list n permit 10.0.0.0/8 le 9 ge 9", 0);
        at("list n permit 10.0.0.0/8 le 9 ge 10", 4);
        at("list n permit 10.0.0.0/8 ge 8 le 32", 0);
        at("list n permit 10.0.0.0/8 ge 7 le 32", 4);
        at("list n permit 10.0.0.0/8 ge 8 le 33", 4);
        at("list n permit 10.0.0.0/8 ge 8 ge 9", 2);
        at("list n permit 10.0.0.0/8 ge 8 le", 2);
        at("list n permit 10.0.0.0/8 ge le 8", 2);
    }

    /** W of 1 to 16 bytes 33 .. 126. */
    private static void secrets() {
        String[] lines = {"join y a 10.0.0.2/24 password %", "join y a 10.0.0.2/24 md5 1 %", "join y a 10.0.0.2/24 sha 1 %",
            "key x a 1 md5 % 0 1", "key x a 1 sha % 0 1"};
        String[] right = {"!", "~", "a", "1234567890123456", "!~#*/:", "cost"};
        String[] wrong = {"12345678901234567", "\u007f", "\u0080", "\u00ff", "a\u001f", "\u0001b", "1234567\0", "a\rb"};
        for (String line : lines) {
            for (String word : right) {
                at(line.replace("%", word), 0);
            }
            for (String word : wrong) {
                at(line.replace("%", word), 4);
            }
        }
        Probe p = made();
        p.setUp("join y a 10.0.0.2/24 password 1234567890123456", "key x a 255 sha !~ 0 99999");
        String text = p.config();
        Probe.due("all 16 bytes are kept", true, text.contains("split poison password 1234567890123456\n"));
        Probe.due("bytes 33 and 126", true, text.contains("key x a 255 sha !~ 0 99999\n"));
    }

    /** Words are parted by 32 and 9; all other bytes are words' bytes. */
    private static void blanks() {
        at("\t link\t\tq \t1 \t", 0);
        for (int value = 0; value < 256; value++) {
            if (value == 10 || value == '#') {
                continue;
            }
            boolean blank = value == 32 || value == 9;
            String one = String.valueOf((char) value);
            at("router" + one + "q", blank ? 0 : 1);
            at(one + "router q", blank ? 0 : 1);
            boolean digit = value >= '0' && value <= '9';
            boolean letter = digit || value >= 'a' && value <= 'z';
            at("router q" + one, blank || letter ? 0 : 3);
            at("router q" + one + "r", blank ? 2 : letter ? 0 : 3);
            at("link q 1" + one, blank ? 0 : 4);
        }
    }

    /** Lines without words, and those whose first word begins with #, are nothing. */
    private static void nothing() {
        at("", 0, 0);
        at("\n", 1, 0);
        at(" ", 1, 0);
        at("\t", 1, 0);
        at("#", 1, 0);
        at("#bogus", 1, 0);
        at("# bogus", 1, 0);
        at(" \t#bogus line", 1, 0);
        at("bogus#", -2, 1);
        at("link # 1", -2, 3);
        at("router # q", -2, 2);
        at("link q 1 # more", -2, 2);
    }

    private static void at(String text, int lines, int fault) {
        Probe p = made();
        Probe.due("read of " + text, lines, p.read(text));
        Probe.due("fault of " + text, fault, p.field.fault());
    }

    /** Too few or too many words. */
    private static void wordCounts() {
        String[] whole = {"link q 1", "router q", "join y a 10.0.0.2/24", "key x a 1 md5 w 0 1", "nokey x a",
            "static x 10.9.0.0/16 1", "filter x in 10.0.0.0/8 deny", "list n permit 10.0.0.0/8", "distribute x in a n",
            "offset x in a n 1", "summary x a 10.0.0.0/8", "neighbor x a 10.0.0.2", "redistribute x connected own",
            "default x a 1", "timers x 1 1 1"};
        for (String line : whole) {
            at(line, 0);
            at(line + " more", 2);
            at(line + " 1", 2);
            for (String less = line; less.contains(" ");) {
                less = less.substring(0, less.lastIndexOf(' '));
                at(less, 2);
            }
        }
        at("nostatic x", 2);
        at("nostatic x 10.9.0.0/16 1", 2);
        at("nostatic", 2);
        at("join y a 10.0.0.2/24" + " cost 1 split off password w md5 1 w sha 2 w passive", 0);
        at("join y a 10.0.0.2/24" + " cost 1 split off password w md5 1 w sha 2 w passive more", 2);
        at("join y a 10.0.0.2/24" + " x".repeat(21), 2);
        at("link q 1" + " x".repeat(2000), 2);
        at("bogus" + " x".repeat(2000), 1);
    }

    /** One of the words told with | where another stands is 2, but where a number might: 4. */
    private static void choices() {
        at("join y a 10.0.0.2/24 split on", 2);
        at("join y a 10.0.0.2/24 split OFF", 2);
        at("key x a 1 sha1 w 0 1", 2);
        at("key x a 1 md w 0 1", 2);
        at("filter x IN 10.0.0.0/8 deny", 2);
        at("filter x in 10.0.0.0/8 denied", 2);
        at("list n permi 10.0.0.0/8", 2);
        at("distribute x inn a n", 2);
        at("offset x o a n 1", 2);
        at("redistribute x conn own", 2);
        at("redistribute x connected 0wn", 4);
        at("redistribute x connected", 2);
        at("default x a of", 4);
        at("default x a offf only", 4);
        at("default x a off only", 2);
        at("default x a 1 onl", 2);
    }

    /** Options: a word that is none, one twice, or its own words lacking. */
    private static void options() {
        String[] twice = {"cost 1 cost 1", "split off split off", "password w password w", "md5 1 w md5 2 w",
            "sha 1 w sha 2 w", "passive passive"};
        String[] lacking = {"cost", "split", "password", "md5", "md5 1", "sha", "sha 1", "passive cost", "cost 1 md5 1"};
        String[] right = {"cost 1", "split off", "split simple", "split poison", "password w", "md5 1 w", "sha 1 w", "passive",
            "passive sha 1 w md5 1 w password w split off cost 1", "password password", "md5 1 sha sha 1 md5"};
        for (String one : twice) {
            at("join y a 10.0.0.2/24 " + one, 2);
        }
        for (String one : lacking) {
            at("join y a 10.0.0.2/24 " + one, 2);
        }
        for (String one : right) {
            at("join y a 10.0.0.2/24 " + one, 0);
        }
        at("join y a 10.0.0.2/24 costs 1", 2);
        at("join y a 10.0.0.2/24 cost passive", 4);
        at("join y a 10.0.0.2/24 1", 2);
        at("link q 1 mtu 84 jitter", 2);
        at("link q 1 jitter 0 jitter 0", 2);
        at("link q 1 jitter 0 mtu 84 jitter 0", 2);
        at("link q 1 mtu 84 mtu 84", 2);
        at("link q 1 jitter mtu", 4);
        at("static x 10.9.0.0/16 1 tag 1 tag 1", 2);
        at("static x 10.9.0.0/16 1 tag", 2);
        at("static x 10.9.0.0/16 1 tags 1", 2);
        at("redistribute x static 1 tag", 2);
        at("redistribute x static 1 tag 1 tag 1", 2);
        at("redistribute x static tag 1", 2);
    }

    /** 1, then 2, then from the left 3, 4, 5; 6 is the last. */
    private static void faultsFromTheLeft() {
        at("bogus", 1);
        at("link Q 9 mtu 1 more", 2);
        at("link Q 9", 3);
        at("link a 9", 3);
        at("join q q 10.0.0.2/99 cost 99 cost", 2);
        at("join q q 10.0.0.2/99 cost 99", 3);
        at("join x q 10.0.0.2/99 cost 99", 3);
        at("join x a 10.0.0.2/99 cost 99", 5);
        at("join x a 10.0.0.2/24 cost 99", 3);
        at("join x a fd00::2/64 cost 99", 4);
        at("key q q 999 md6 w 5 4", 2);
        at("key q q 999 md5 w 5 4", 3);
        at("key x b 999 md5 w 5 4", 3);
        at("static q 10.0.0.1/8 0", 3);
        at("static x 10.0.0.1/8 0", 5);
        at("static x 10.0.0.0/8 0", 4);
        at("nostatic q 10.0.0.1/8", 3);
        at("nostatic x 10.0.0.1/8", 5);
        at("nostatic x 10.0.0.0/8", 3);
        at("filter q in 10.0.0.1/8 deny", 3);
        at("filter x in 10.0.0.1/8 deny", 5);
        at("list N deny 10.0.0.1/8 ge 99", 3);
        at("list n deny 10.0.0.1/8 ge 99", 5);
        at("list n deny 10.0.0.0/8 ge 99", 4);
        at("offset q in q q 99", 3);
        at("offset x in q n 99", 3);
        at("offset x in a q 99", 3);
        at("offset x in a n 99", 4);
        at("summary q a 10.0.0.1/8", 3);
        at("summary x b 10.0.0.1/8", 3);
        at("summary x a 10.0.0.1/8", 5);
        at("neighbor y a 10.0.0", 3);
        at("neighbor x a 10.0.0", 5);
        at("default y a 99", 3);
        at("default x a 99", 4);
        at("redistribute q static 99", 3);
        at("timers q 0 0 0", 3);
        at("timers x 0 0 0", 4);
    }

    private static void linesThatFailDoNothing() {
        String[] lines = {"link q 1 mtu 83", "router Q", "join y a 10.0.0.2/24 cost 16", "join x a 10.0.0.2/24 cost 3",
            "join x a fd00::1/64 cost 3 password w md5 256 w", "join x a fd00::1/64 passive cost 0", "key x a 1 md5 w 2 1",
            "nokey y a", "static x 10.9.0.0/16 16", "static x 10.9.0.0/16 1 tag 65536", "filter x in 10.9.0.0/8 deny",
            "list q permit 10.0.0.0/8 ge 7", "distribute x in a q", "offset x in a n 16", "summary x a 10.9.0.0/8",
            "neighbor x a 10.0.0", "redistribute x connected 5 tag 65536", "default x a 16 only", "timers x 5 5 1001"};
        for (String line : lines) {
            Probe p = made();
            String before = p.config() + p.show(0, 0) + p.show(0, 1) + p.show(0, 2);
            Probe.due("it fails: " + line, -2, p.read(line));
            Probe.due("nothing is done by " + line, before, p.config() + p.show(0, 0) + p.show(0, 1) + p.show(0, 2));
        }
    }

    /** How many lines there were; -1 - the number of the line that can't be (from 1). */
    private static void lineNumbers() {
        at("bogus", -2, 1);
        at("bogus\n", -2, 1);
        at("\nbogus\n\n", -3, 1);
        at("#\n \nrouter q\nbogus\nrouter r", -5, 1);
        at("router q\nrouter r\n", 2, 0);
        at("router q\nrouter r", 2, 0);
        at("router q\nrouter r\n\n", 3, 0);
        at("router q\nrouter r\n ", 3, 0);
        Probe p = made();
        Probe.due("the third can't be", -4, p.read("router q\nrouter r\nrouter q\nrouter s"));
        Probe.due("those ahead of it are done", 0, p.field.routes(3));
        Probe.due("those behind it are not", -1, p.field.routes(4));
    }

    /** Four numbers 0 .. 255; eight parts of one to four digits. */
    private static void addressNumbers() {
        at("neighbor x a 0.0.0.0", 0);
        at("neighbor x a 255.255.255.255", 0);
        for (int i = 0; i < 4; i++) {
            StringBuilder high = new StringBuilder();
            StringBuilder ahead = new StringBuilder();
            for (int k = 0; k < 4; k++) {
                high.append(k > 0 ? "." : "").append(k == i ? "256" : "255");
                ahead.append(k > 0 ? "." : "").append(k == i ? "00" : "0");
            }
            at("neighbor x a " + high, 5);
            at("neighbor x a " + ahead, 5);
        }
        at("neighbor x a ffff:ffff:ffff:ffff:ffff:ffff:ffff:ffff", 0);
        at("neighbor x a FFFF:0fff:00FF:000f:0000:0:00:000", 0);
        at("neighbor x a 10000:ffff:ffff:ffff:ffff:ffff:ffff:ffff", 5);
        at("neighbor x a ffff:ffff:ffff:ffff:ffff:ffff:ffff:00000", 5);
        at("neighbor x a 1:2:3:4:5:6:7", 5);
        at("neighbor x a 1:2:3:4:5:6:7:8", 0);
        at("neighbor x a 1:2:3:4:5:6:7:8:9", 5);
        at("neighbor x a 1:2:3:4:5:6:7::", 0);
        at("neighbor x a 1:2:3:4:5:6:7:8::", 5);
        at("neighbor x a ::2:3:4:5:6:7:8", 0);
        at("neighbor x a ::1:2:3:4:5:6:7:8", 5);
        at("neighbor x a 1:2:3::5:6:7:8", 0);
        at("neighbor x a 1:2:3:4::5:6:7:8", 5);
        at("neighbor x a ::", 0);
        at("neighbor x a :", 5);
        at("neighbor x a :::", 5);
        at("neighbor x a 1::2::3", 5);
    }

    /** A length 0 .. 32 or 0 .. 128, all bits behind it 0, without 0s ahead. */
    private static void prefixLengths() {
        for (int length = 0; length <= 32; length++) {
            at("static x " + four(length, false) + "/" + length + " 1", 0);
            at("static x " + four(length, true) + "/" + length + " 1", length == 32 ? 0 : 5);
            at("join y a " + four(length, true) + "/" + length, 0);
        }
        for (int length = 0; length <= 128; length++) {
            at("static x " + six(length, false) + "/" + length + " 1", 0);
            at("static x " + six(length, true) + "/" + length + " 1", length == 128 ? 0 : 5);
            at("join y a " + six(length, true) + "/" + length, 0);
        }
        for (String length : new String[] {"33", "-1", "", "00", "01", "032", "x", "100", "256", "1000", "4294967296"}) {
            at("static x 0.0.0.0/" + length + " 1", 5);
            at("join y a 10.0.0.2/" + length, 5);
            at("filter x in 0.0.0.0/" + length + " deny", 5);
            at("list n deny 0.0.0.0/" + length, 5);
            at("summary x a 0.0.0.0/" + length, 5);
            at("nostatic x 0.0.0.0/" + length, 5);
        }
        at("static x ::/128 1", 0);
        at("static x ::/129 1", 5);
        at("static x ::/0128 1", 5);
        at("static x ::/1000 1", 5);
        at("join y a fd00::2/129", 5);
    }

    /** An address of 1s with a length; with one 1 behind it, if there is room. */
    private static String four(int length, boolean more) {
        int bits = more ? Math.min(32, length + 1) : length;
        long value = bits == 0 ? 0 : 0xffffffffL << 32 - bits & 0xffffffffL;
        return (value >> 24) + "." + (value >> 16 & 255) + "." + (value >> 8 & 255) + "." + (value & 255);
    }

    private static String six(int length, boolean more) {
        int bits = more ? Math.min(128, length + 1) : length;
        StringBuilder out = new StringBuilder();
        for (int i = 0; i < 8; i++) {
            int ones = Math.max(0, Math.min(16, bits - 16 * i));
            out.append(i > 0 ? ":" : "").append(Integer.toHexString(0xffff << 16 - ones & 0xffff));
        }
        return out.toString();
    }
}
