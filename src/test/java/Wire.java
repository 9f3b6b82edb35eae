import java.net.InetAddress;
import java.net.UnknownHostException;
import java.security.MessageDigest;
import java.security.GeneralSecurityException;
import javax.crypto.Mac;
import javax.crypto.spec.SecretKeySpec;

/** Datagrams in hexadecimal digits, built apart from the class under test. */
final class Wire {
    static final String REQUEST_4 = "01020000";
    static final String RESPONSE_4 = "02020000";
    static final String REQUEST_6 = "01010000";
    static final String RESPONSE_6 = "02010000";
    static final String ALL_4 = "00".repeat(19) + "10";
    static final String ALL_6 = "00".repeat(19) + "10";

    private Wire() {
    }

    static String address(String text) {
        try {
            // A text of digits is never looked up.
            return Probe.hex(InetAddress.getByName(text).getAddress());
        } catch (UnknownHostException e) {
            throw new IllegalArgumentException(text);
        }
    }

    static String number(long value, int size) {
        return String.format("%0" + 2 * size + "x", value);
    }

    static String mask(int length) {
        return number(length == 0 ? 0 : 0xffffffffL << 32 - length & 0xffffffffL, 4);
    }

    /** An entry of a prefix of either family. */
    static String entry(String prefix, int tag, long metric) {
        return entry(prefix, tag, "0.0.0.0", metric);
    }

    static String entry(String prefix, int tag, String hop, long metric) {
        String[] parts = prefix.split("/");
        int length = Integer.parseInt(parts[1]);
        if (prefix.contains(":")) {
            return address(parts[0]) + number(tag, 2) + number(length, 1) + number(metric, 1);
        }
        return "0002" + number(tag, 2) + address(parts[0]) + mask(length) + address(hop) + number(metric, 4);
    }

    static String nextHop(String hop) {
        return address(hop) + "000000ff";
    }

    static String password(String word) {
        return "ffff0002" + padded(word, 16);
    }

    private static String padded(String word, int size) {
        StringBuilder out = new StringBuilder(Probe.hex(word.getBytes()));
        while (out.length() < 2 * size) {
            out.append("00");
        }
        return out.toString();
    }

    /** A whole datagram with an md5 key. */
    static String md5(String head, int key, String word, long number, String entries) {
        int size = 24 + entries.length() / 2;
        String ahead = head + "ffff0003" + number(size, 2) + number(key, 1) + "10" + number(number, 4)
                + "00".repeat(8) + entries + "ffff0001";
        try {
            byte[] sum = MessageDigest.getInstance("MD5").digest(Probe.unhex(ahead + padded(word, 16)));
            return ahead + Probe.hex(sum);
        } catch (GeneralSecurityException e) {
            throw new IllegalStateException(e);
        }
    }

    /** A whole datagram with a sha key. */
    static String sha(String head, int key, String word, long number, String entries) {
        int size = 24 + entries.length() / 2;
        String ahead = head + "ffff0003" + number(size, 2) + number(key, 1) + "14" + number(number, 4)
                + "00".repeat(8) + entries + "ffff0001";
        try {
            Mac mac = Mac.getInstance("HmacSHA1");
            mac.init(new SecretKeySpec(word.getBytes(), "HmacSHA1"));
            return ahead + Probe.hex(mac.doFinal(Probe.unhex(ahead))) + "00".repeat(16);
        } catch (GeneralSecurityException e) {
            throw new IllegalStateException(e);
        }
    }
}
