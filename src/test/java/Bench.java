/**
 * A machine with one code segment (number 0, name 100, 100 words, brackets 0 7 7, all flags for user 0),
 * in which process 0 runs small programs from word 0 on.
 */
final class Bench {
    static final int STATUS = 0, RING = 1, NUMBER = 2, WORD = 3, A = 4, X1 = 5, X2 = 6, X3 = 7, CONDITION = 8;
    static final int KIND = 9, FAULT_RING = 10, FAULT_NUMBER = 11, FAULT_WORD = 12;
    static final int STEPS = 13, FAULTS = 14, SAVED = 15, KNOWS = 16, CALLS = 17, RETURNS = 18;
    static final int RUNNING = 1, HALTED = 2, FAULTED = 3, DEAD = 4;

    final RingWarden x = new RingWarden();

    Bench() {
        x.segment(100, 100);
        x.brackets(0, 0, 7, 7, 0);
        x.flags(0, 0, 7);
    }

    Bench brackets(int r1, int r2, int r3, int gates) {
        x.brackets(0, r1, r2, r3, gates);
        return this;
    }

    /** One segment more, known by no process so far; its number in the list. */
    int other(int name, int flags, int r1, int r2, int r3, int gates) {
        int s = x.segment(name, 20);
        x.brackets(s, r1, r2, r3, gates);
        x.flags(s, 0, flags);
        return s;
    }

    Bench put(int k, int... words) {
        for (int i = 0; i < words.length; i++) {
            x.word(0, k + i, words[i]);
        }
        return this;
    }

    Bench start(int ring) {
        x.start(0, 0, 0, ring);
        return this;
    }

    Bench run(int n) {
        x.run(0, n);
        return this;
    }

    /** Puts a program at word 0, starts it in a ring and does one step for each of its words. */
    Bench does(int ring, int... program) {
        put(0, program);
        start(ring);
        return run(program.length);
    }

    int is(int what) {
        return x.state(0, what);
    }

    int[] place() {
        return new int[] {is(RING), is(NUMBER), is(WORD)};
    }

    /** Kind, ring, number and word of the latest fault. */
    int[] fault() {
        return new int[] {is(KIND), is(FAULT_RING), is(FAULT_NUMBER), is(FAULT_WORD)};
    }

    int[] pointer(int n) {
        return new int[] {x.pointer(0, n, 0), x.pointer(0, n, 1), x.pointer(0, n, 2)};
    }
}
