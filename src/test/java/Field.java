import java.util.ArrayList;
import java.util.List;

/**
 * The class under test behind its own face. The document promises nothing of an object behind its
 * 512th call, and reading a text takes a call a byte: so when an object has been used up, a new one
 * is made, to which all calls are done again but those that only ask.
 */
final class Field {
    private static final int MOST_CALLS = 512;

    private interface Call {
        void on(RoutingField field);
    }

    private RoutingField live = new RoutingField();
    private final List<Call> done = new ArrayList<>();
    private int used = 0;
    private boolean endless = false;

    /** For the one bound of the document that no 512 calls come to. */
    void allowMoreCalls() {
        endless = true;
    }

    private RoutingField once() {
        if (used == MOST_CALLS && !endless) {
            if (done.size() >= MOST_CALLS) {
                throw new IllegalStateException("a test of more than 512 calls");
            }
            live = new RoutingField();
            for (Call call : done) {
                call.on(live);
            }
            used = done.size();
        }
        used++;
        return live;
    }

    private RoutingField keep(Call call) {
        RoutingField field = once();
        if (!endless) {
            done.add(call);
        }
        return field;
    }

    boolean feed(int a, int b, int c, int d, int e) {
        return keep(f -> f.feed(a, b, c, d, e)).feed(a, b, c, d, e);
    }

    boolean end(int n) {
        return keep(f -> f.end(n)).end(n);
    }

    int read() {
        return keep(f -> f.read()).read();
    }

    int fault() {
        return once().fault();
    }

    int ticks(int n) {
        return keep(f -> f.ticks(n)).ticks(n);
    }

    boolean link(int link, boolean up) {
        return keep(f -> f.link(link, up)).link(link, up);
    }

    boolean lose(int link, int n) {
        return keep(f -> f.lose(link, n)).lose(link, n);
    }

    boolean run(int router, boolean on) {
        return keep(f -> f.run(router, on)).run(router, on);
    }

    boolean put(int link, int family, int port, int hops) {
        return keep(f -> f.put(link, family, port, hops)).put(link, family, port, hops);
    }

    int show(int router, int what) {
        return keep(f -> f.show(router, what)).show(router, what);
    }

    int config() {
        return keep(f -> f.config()).config();
    }

    int oracle(int router) {
        return keep(f -> f.oracle(router)).oracle(router);
    }

    int way(int router) {
        return keep(f -> f.way(router)).way(router);
    }

    int seen(int link) {
        return keep(f -> f.seen(link)).seen(link);
    }

    int textAt(int i) {
        return once().textAt(i);
    }

    int count(int router, int what) {
        return once().count(router, what);
    }

    int routes(int router) {
        return once().routes(router);
    }

    int flying() {
        return once().flying();
    }

    int now() {
        return once().now();
    }
}
