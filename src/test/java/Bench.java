/**
 * A machine with one code segment (number 0, name 100, 100 words, brackets 0 7 7, all flags for one user),
 * in which that user's process (0, if none is told) runs small programs from word 0 on.
 */
final class Bench {
    static final int STATUS = 0, RING = 1, NUMBER = 2, WORD = 3, A = 4, X1 = 5, X2 = 6, X3 = 7, CONDITION = 8;
    static final int KIND = 9, FAULT_RING = 10, FAULT_NUMBER = 11, FAULT_WORD = 12;
    static final int STEPS = 13, FAULTS = 14, SAVED = 15, KNOWS = 16, CALLS = 17, RETURNS = 18;
    static final int RUNNING = 1, HALTED = 2, FAULTED = 3, DEAD = 4;

    final Counted x = new Counted();
    final int p;

    Bench() {
        this(0);
    }

    Bench(int p) {
        this.p = p;
        x.segment(100, 100);
        x.brackets(0, 0, 7, 7, 0);
        x.flags(0, p, 7);
    }

    Bench brackets(int r1, int r2, int r3, int gates) {
        x.brackets(0, r1, r2, r3, gates);
        return this;
    }

    /** One segment more, of 20 words, known by no process so far; its number in the list. */
    int other(int name, int flags, int r1, int r2, int r3, int gates) {
        int s = x.segment(name, 20);
        x.brackets(s, r1, r2, r3, gates);
        x.flags(s, p, flags);
        return s;
    }

    Bench put(int k, int... words) {
        for (int i = 0; i < words.length; i++) {
            x.word(0, k + i, words[i]);
        }
        return this;
    }

    Bench start(int ring) {
        x.start(p, 0, 0, ring);
        return this;
    }

    Bench run(int n) {
        x.run(p, n);
        return this;
    }

    /** Puts a program at word 0, starts it in a ring and does one step for each of its words. */
    Bench does(int ring, int... program) {
        put(0, program);
        start(ring);
        return run(program.length);
    }

    int is(int what) {
        return x.state(p, what);
    }

    int[] place() {
        return new int[] {is(RING), is(NUMBER), is(WORD)};
    }

    /** Kind, ring, number and word of the latest fault. */
    int[] fault() {
        return new int[] {is(KIND), is(FAULT_RING), is(FAULT_NUMBER), is(FAULT_WORD)};
    }

    int[] pointer(int n) {
        return new int[] {x.pointer(p, n, 0), x.pointer(p, n, 1), x.pointer(p, n, 2)};
    }

    /** A, X1 to X3 and the condition. */
    int[] registers() {
        return new int[] {is(A), is(X1), is(X2), is(X3), is(CONDITION)};
    }

    /** All that state tells, and all pointers. */
    int[] everything() {
        int[] all = new int[19 + 24];
        for (int what = 0; what < 19; what++) {
            all[what] = is(what);
        }
        for (int i = 0; i < 24; i++) {
            all[19 + i] = x.pointer(p, i / 3, i % 3);
        }
        return all;
    }
}
