/** Promises 1, 2, 3 and 20: a new object, feed, end, now. */
public final class TapeTest {
    public static void main(String[] args) {
        newObject();
        fullTape();
        ends();
        Probe.finish();
    }

    private static void newObject() {
        Probe p = new Probe();
        Probe.due("now", 0, p.field.now());
        Probe.due("fault", 0, p.field.fault());
        Probe.due("flying", 0, p.field.flying());
        Probe.due("routes", RoutingField.NONE, p.field.routes(0));
        Probe.due("seen", RoutingField.NONE, p.field.seen(0));
        Probe.due("link", false, p.field.link(0, false));
        Probe.due("run", false, p.field.run(0, false));
        Probe.due("config", "", p.config());
        Probe.due("text", "", p.text(0));
    }

    private static void fullTape() {
        Probe p = new Probe();
        for (int i = 0; i < 204; i++) {
            Probe.due("feed " + i, true, p.field.feed(0x0a0a0a0a, 0x0a0a0a0a, 0x0a0a0a0a, 0x0a0a0a0a, 0x0a0a0a0a));
        }
        Probe.due("feed of more than 4096", false, p.field.feed(0, 0, 0, 0, 0));
        Probe.due("read of 4080 newlines", 4080, p.field.read());
        Probe.due("the tape is empty then", 0, p.field.read());
        Probe q = new Probe();
        for (int i = 0; i < 204; i++) {
            q.field.feed(0x0a0a0a0a, 0x0a0a0a0a, 0x0a0a0a0a, 0x0a0a0a0a, 0x0a0a0a0a);
        }
        Probe.due("end at 4077", true, q.field.end(4077));
        Probe.due("feed up to 4097", false, q.field.feed(0, 0, 0, 0, 0));
        Probe.due("end at 4076", true, q.field.end(4076));
        Probe.due("feed up to 4096", true, q.field.feed(0x0a0a0a0a, 0x0a0a0a0a, 0x0a0a0a0a, 0x0a0a0a0a, 0x0a0a0a0a));
        Probe.due("end at 4096", true, q.field.end(4096));
        Probe.due("read of 4096 newlines", 4096, q.field.read());
    }

    private static void ends() {
        Probe p = new Probe();
        Probe.due("end of an empty tape", true, p.field.end(0));
        Probe.due("end behind an empty tape", false, p.field.end(1));
        p.field.feed(0x61626364, 0x0a0a0a0a, 0x0a0a0a0a, 0x0a0a0a0a, 0x0a0a0a0a);
        Probe.due("end below 0", false, p.field.end(-1));
        Probe.due("end behind all", false, p.field.end(21));
        Probe.due("end at all", true, p.field.end(20));
        Probe.due("highest byte first: a word that is none", -2, p.field.read());
        Probe.due("its fault", 1, p.field.fault());
    }
}
