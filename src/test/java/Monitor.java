/** A LineMonitor that can't be used beyond the 512 calls of which the document speaks. */
final class Monitor {
    static final int MOST_CALLS = 512;

    private final LineMonitor real = new LineMonitor();
    private int calls;

    private LineMonitor used() {
        calls++;
        if (calls > MOST_CALLS) {
            throw new IllegalStateException("what call " + calls + " answers is free");
        }
        return real;
    }

    int callsLeft() {
        return MOST_CALLS - calls;
    }

    int open(int users, int fields, int quantum, int beat) {
        return used().open(users, fields, quantum, beat);
    }

    int feed(int a, int b, int c, int d, int e) {
        return used().feed(a, b, c, d, e);
    }

    int end(int n) {
        return used().end(n);
    }

    int assemble(int u) {
        return used().assemble(u);
    }

    int fault(int what) {
        return used().fault(what);
    }

    int poke(int u, int a, int v) {
        return used().poke(u, a, v);
    }

    int peek(int u, int a) {
        return used().peek(u, a);
    }

    int store(int u, int b, int i, int v) {
        return used().store(u, b, i, v);
    }

    int block(int u, int b, int i) {
        return used().block(u, b, i);
    }

    int switches(int u, int v) {
        return used().switches(u, v);
    }

    int start(int u, int a) {
        return used().start(u, a);
    }

    int key(int u, int c) {
        return used().key(u, c);
    }

    int run(int n) {
        return used().run(n);
    }

    int about(int u, int what) {
        return used().about(u, what);
    }

    int letter(int u, int i) {
        return used().letter(u, i);
    }

    int waiting(int u, int i) {
        return used().waiting(u, i);
    }

    int queued(int u, int i) {
        return used().queued(u, i);
    }

    int house(int what) {
        return used().house(what);
    }

    int row(int i) {
        return used().row(i);
    }

    long digest() {
        return used().digest();
    }
}
