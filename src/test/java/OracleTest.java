import java.util.ArrayList;
import java.util.List;
import java.util.Random;

/** Promise 13: oracle; and that the tables come to the ways it knows. */
public final class OracleTest {
    public static void main(String[] args) {
        answers();
        costs();
        tablesComeToIt();
        Probe.finish();
    }

    private static Probe made() {
        Probe p = new Probe();
        p.setUp("link a 1", "link b 1", "router x", "router y", "router z", "join x a 10.0.0.1/24 cost 2",
                "join y a 10.0.0.2/24 cost 3", "join y b 10.0.1.2/24 cost 4", "join z b 10.0.1.3/24 cost 5",
                "join y b fd00:1::2/64", "join z b fd00:1::3/64", "join x a fd00::1/64", "static z 10.0.0.0/8 6",
                "static z 1::/16 7", "static y 11.0.0.0/8 1", "static z 11.0.0.0/8 10");
        return p;
    }

    private static void answers() {
        Probe p = made();
        Probe.due("no address", -1, p.oracle(0, "10.0.0"));
        Probe.due("no bytes", -1, p.oracle(0, ""));
        Probe.due("a newline behind it", -1, p.oracle(0, "10.0.0.1\n"));
        Probe.due("no router", -1, p.oracle(3, "10.0.0.1"));
        Probe.due("no router below 0", -1, p.oracle(-1, "10.0.0.1"));
        Probe.due("none covers", -1, p.oracle(0, "12.0.0.1"));
        Probe.due("the tape is empty then", -1, p.field.oracle(0));
        p.field.run(0, false);
        Probe.due("it stands still", -1, p.oracle(0, "10.0.0.1"));
    }

    private static void costs() {
        Probe p = made();
        Probe.due("its own interface", 2, p.oracle(0, "10.0.0.9"));
        Probe.due("another's", 3, p.oracle(1, "10.0.0.9"));
        Probe.due("the nearest with it", 5 + 3, p.oracle(2, "10.0.0.9"));
        Probe.due("a link away", 4 + 2, p.oracle(0, "10.0.1.9"));
        Probe.due("a static one, two links away", 6 + 4 + 2, p.oracle(0, "10.9.0.1"));
        Probe.due("its own metric, though another way is shorter", 10, p.oracle(2, "11.0.0.1"));
        Probe.due("x's", 3, p.oracle(0, "11.0.0.1"));
        Probe.due("of family 6", 7 + 4, p.oracle(1, "1::5"));
        Probe.due("y has no address of family 6 on a", 16, p.oracle(0, "1::5"));
        p.setUp("join y a fd00::2/64");
        Probe.due("now it has", 7 + 4 + 2, p.oracle(0, "1::5"));
        p.setUp("static z 1::/16 9");
        Probe.due("15", 15, p.oracle(0, "1::5"));
        p.setUp("static z 1::/16 10");
        Probe.due("more than 15", 16, p.oracle(0, "1::5"));
        p.setUp("static x 10.0.1.0/24 1");
        Probe.due("its own way to another's network", 1, p.oracle(0, "10.0.1.9"));
        p.setUp("nostatic x 10.0.1.0/24", "static z 10.0.1.0/24 1", "static z 10.0.0.0/24 2");
        Probe.due("also when that came first", 2, p.oracle(2, "10.0.0.9"));
        p.setUp("nostatic z 10.0.0.0/24");
        Probe.due("a connected one's cost first", 5, p.oracle(2, "10.0.1.9"));
        p.field.link(1, false);
        Probe.due("b is down: the static one", 1, p.oracle(2, "10.0.1.9"));
        Probe.due("no way to it", 16, p.oracle(0, "10.0.1.9"));
        p.setUp("nostatic z 10.0.1.0/24");
        Probe.due("the longest that is there", 6, p.oracle(2, "10.0.1.9"));
        p.field.run(2, false);
        Probe.due("z stands still", -1, p.oracle(0, "10.0.1.9"));
        p.setUp("static x 0.0.0.0/0 4", "static x 10.0.0.9/32 9");
        Probe.due("length 0", 4, p.oracle(0, "200.0.0.1"));
        Probe.due("length 32", 9, p.oracle(0, "10.0.0.9"));
    }

    /** In random fields with failures, the tables come to the oracle's sums when all is quiet. */
    private static void tablesComeToIt() {
        Random random = new Random(11);
        for (int n = 0; n < 60; n++) {
            Probe p = new Probe();
            int links = 2 + random.nextInt(3);
            int routers = 2 + random.nextInt(5);
            List<String> lines = new ArrayList<>();
            for (int l = 0; l < links; l++) {
                lines.add("link l" + l + " " + (1 + random.nextInt(5)) + " jitter " + random.nextInt(5) + " mtu "
                        + (100 + random.nextInt(400)));
            }
            for (int r = 0; r < routers; r++) {
                lines.addAll(List.of("router r" + r, "timers r" + r + " 10 60 40", "static r" + r + " 20." + r + ".0.0/16 1",
                        "static r" + r + " 20:" + r + "::/32 2"));
                for (int l = 0; l < links; l++) {
                    if (random.nextInt(3) > 0) {
                        lines.add("join r" + r + " l" + l + " 10.0." + l + "." + (r + 1) + "/24 cost "
                                + (1 + random.nextInt(4)) + " md5 1 w" + l);
                        lines.add("join r" + r + " l" + l + " fd00:" + l + "::" + (r + 1) + "/64");
                    }
                }
            }
            p.setUp(lines.toArray(new String[0]));
            for (int round = 0; round < 4; round++) {
                p.field.link(random.nextInt(links), random.nextBoolean());
                p.field.run(random.nextInt(routers), random.nextInt(3) > 0);
                p.field.lose(random.nextInt(links), random.nextInt(9));
                p.field.ticks(random.nextInt(100));
            }
            p.field.ticks(600);
            for (int i = 0; i < 10; i++) {
                int r = random.nextInt(routers);
                int to = random.nextInt(routers);
                int l = random.nextInt(links);
                compare(p, r, "20." + to + ".1.1");
                compare(p, r, "20:" + to + "::1");
                compare(p, r, "10.0." + l + ".200");
                compare(p, r, "fd00:" + l + "::200");
            }
        }
    }

    private static void compare(Probe p, int router, String address) {
        int sum = p.oracle(router, address);
        String way = p.way(router, address);
        if (sum == RoutingField.NONE || sum == 16) {
            Probe.due("way of " + router + " to " + address, "NONE", way);
        } else {
            Probe.due("way of " + router + " to " + address, String.valueOf(sum), way.split(" ")[way.equals("NONE") ? 0 : 1]);
        }
    }
}
