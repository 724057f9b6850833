/**
 * A RingWarden whose calls are counted: what an object answers behind its 512th call is free, so a test that
 * asks for more is itself wrong.
 */
final class Counted {
    static final int MOST_CALLS = 512;

    private final RingWarden x = new RingWarden();
    private int calls = 0;

    int callsLeft() {
        return MOST_CALLS - calls;
    }

    private RingWarden counted() {
        calls++;
        if (calls == MOST_CALLS + 1) {
            Check.due("calls that a test asks of one object", calls, MOST_CALLS);
        }
        return x;
    }

    int segment(int name, int words) {
        return counted().segment(name, words);
    }

    boolean brackets(int s, int r1, int r2, int r3, int gates) {
        return counted().brackets(s, r1, r2, r3, gates);
    }

    boolean flags(int s, int user, int flags) {
        return counted().flags(s, user, flags);
    }

    boolean word(int s, int k, int v) {
        return counted().word(s, k, v);
    }

    boolean define(int s, int symbol, int k) {
        return counted().define(s, symbol, k);
    }

    boolean link(int s, int k, int name, int symbol) {
        return counted().link(s, k, name, symbol);
    }

    boolean start(int p, int s, int k, int ring) {
        return counted().start(p, s, k, ring);
    }

    int handler(int p, int s, int k) {
        return counted().handler(p, s, k);
    }

    int run(int p, int n) {
        return counted().run(p, n);
    }

    int state(int p, int what) {
        return counted().state(p, what);
    }

    int pointer(int p, int n, int what) {
        return counted().pointer(p, n, what);
    }

    int peek(int p, int number, int k) {
        return counted().peek(p, number, k);
    }

    int stored(int s, int k) {
        return counted().stored(s, k);
    }

    int known(int p, int number) {
        return counted().known(p, number);
    }

    int may(int p, int ring, int number, int how) {
        return counted().may(p, ring, number, how);
    }

    int said(int i) {
        return counted().said(i);
    }

    int sayings() {
        return counted().sayings();
    }
}
