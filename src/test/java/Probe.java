import java.io.ByteArrayOutputStream;
import java.nio.charset.StandardCharsets;
import java.util.NoSuchElementException;

/** A field under test: feeds texts and bytes, and says every answer that is not the one due. */
final class Probe {
    private static final int TAPE_ROOM = 4096;
    private static int wrong = 0;

    final Field field = new Field();

    static void due(String what, Object want, Object got) {
        if (!want.equals(got)) {
            wrong++;
            System.out.println(what + ": due is " + want + ", answered " + got);
        }
    }

    static void finish() {
        System.exit(wrong == 0 ? 0 : 1);
    }

    void feed(byte[] bytes) {
        for (int at = 0; at < bytes.length; at += 20) {
            int[] five = new int[5];
            for (int i = 0; i < 20; i++) {
                int value = at + i < bytes.length ? bytes[at + i] & 255 : 0;
                five[i / 4] = five[i / 4] << 8 | value;
            }
            if (!field.feed(five[0], five[1], five[2], five[3], five[4])) {
                throw new IllegalStateException("the tape is full");
            }
        }
        field.end(bytes.length);
    }

    void feed(String text) {
        feed(text.getBytes(StandardCharsets.ISO_8859_1));
    }

    int read(String text) {
        feed(text);
        return field.read();
    }

    /** Lines that must all be done; they are read together, as far as the tape has room. */
    void setUp(String... lines) {
        int from = 0;
        while (from < lines.length) {
            StringBuilder text = new StringBuilder();
            int to = from;
            while (to < lines.length && text.length() + lines[to].length() < TAPE_ROOM - 20) {
                text.append(lines[to]).append('\n');
                to++;
            }
            int answer = read(text.toString());
            due("lines of " + text + "fault " + field.fault(), to - from, answer);
            from = to;
        }
    }

    /** Lines made of a text with %d in it, of the numbers from 0 on. */
    void setUpMany(int n, String line) {
        String[] lines = new String[n];
        for (int i = 0; i < n; i++) {
            lines[i] = line.replace("%d", String.valueOf(i));
        }
        setUp(lines);
    }

    void fault(String line, int want) {
        int answer = read(line);
        due("answer of " + line, want == 0 ? 1 : -2, answer);
        due("fault of " + line, want, field.fault());
    }

    byte[] bytes(int length) {
        ByteArrayOutputStream out = new ByteArrayOutputStream();
        for (int i = 0; i < length; i++) {
            out.write(field.textAt(i));
        }
        try {
            field.textAt(length);
            due("textAt(" + length + ") throws", true, false);
        } catch (NoSuchElementException e) {
            return out.toByteArray();
        }
        return out.toByteArray();
    }

    String text(int length) {
        return length < 0 ? "NONE" : new String(bytes(length), StandardCharsets.ISO_8859_1);
    }

    String show(int router, int what) {
        return text(field.show(router, what));
    }

    String config() {
        return text(field.config());
    }

    String way(int router, String address) {
        feed(address);
        return text(field.way(router));
    }

    int oracle(int router, String address) {
        feed(address);
        return field.oracle(router);
    }

    /** The latest datagram on a link, in hexadecimal digits. */
    String seen(int link) {
        int length = field.seen(link);
        return length < 0 ? "NONE" : hex(bytes(length));
    }

    boolean put(int link, int family, int port, int hops, String hex) {
        feed(unhex(hex));
        return field.put(link, family, port, hops);
    }

    static String hex(byte[] bytes) {
        StringBuilder out = new StringBuilder();
        for (byte one : bytes) {
            out.append(String.format("%02x", one & 255));
        }
        return out.toString();
    }

    static byte[] unhex(String hex) {
        String digits = hex.replace(" ", "");
        byte[] out = new byte[digits.length() / 2];
        for (int i = 0; i < out.length; i++) {
            out[i] = (byte) Integer.parseInt(digits.substring(2 * i, 2 * i + 2), 16);
        }
        return out;
    }
}
