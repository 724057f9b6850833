/**
 * The boundaries of promises 8 to 13 and 15 to 18: a method for each sentence that names one, with the sentence
 * above it.
 */
public final class ProcessBoundsTest {
    private static final int NONE = RingWarden.NONE;
    private static final int MIN = Integer.MIN_VALUE;
    private static final int MAX = Integer.MAX_VALUE;
    private static final int NO_ORDER = Orders.own(31, 0);

    public static void main(String[] args) {
        startPlace();
        startAllElse0();
        startWithStacks0();
        startKnowsOne();
        startNothingLinked();
        startNothingSavedNoHandler();
        startFromEveryState();
        startRefused();
        handlerNumber();
        handlerOfEveryState();
        handlerReplaced();
        handlerRefused();
        runAtMostN();
        runOnlyWhileRunning();
        runCountsFaultingSteps();
        runRefused();
        stateOfAll();
        stateOfOthers();
        pointerRefused();
        peekWhereThereIsNone();
        peekOfEveryProcess();
        knownRefused();
        mayRefused();
        saidWhereThereIsNone();
        first200AreKept();
        saidByAnyProcess();
        all512Calls();
        Check.finish();
    }

    // Promise 8: "its place is (ring, 8, k), all POINTERS (ring, 0, 0)", "k is not 0 to 65535"
    private static void startPlace() {
        for (int p = 0; p < 4; p++) {
            for (int ring = 0; ring < 8; ring++) {
                Bench b = new Bench(p);
                for (int k : new int[] {0, 99, 100, 255, 256, 65535}) {
                    Check.due("start at " + k, b.x.start(p, 0, k, ring), true);
                    Check.dueAll("place", b.place(), ring, 8, k);
                    Check.due("RUNNING", b.is(Bench.STATUS), Bench.RUNNING);
                }
                for (int n = 0; n < 8; n++) {
                    Check.dueAll("pointer " + n, b.pointer(n), ring, 0, 0);
                }
            }
        }
    }

    /** A process that has changed all it has: registers, condition, pointers, stack, links, handler, counts. */
    private static Bench used() {
        Bench b = new Bench();
        int s = b.other(7, 7, 0, 7, 7, 20);
        b.x.define(s, 1, 2);
        b.x.link(0, 0, 7, 1);
        b.x.word(s, 2, Orders.own(Orders.RETURN, 3));
        b.x.word(s, 3, Orders.pointerWord(4, 8, 7));
        b.put(0, Orders.immediate(Orders.LOAD, 9), Orders.of(1, Orders.immediate(Orders.LOAD_X, 11)),
            Orders.of(2, Orders.immediate(Orders.LOAD_X, 12)), Orders.of(3, Orders.immediate(Orders.LOAD_X, 13)),
            Orders.immediate(Orders.COMPARE, 1), Orders.of(5, Orders.own(Orders.POINT, 50)),
            Orders.byLink(Orders.CALL, 0), Orders.byPointer(Orders.STORE, 0, 7), NO_ORDER);
        b.start(4);
        b.x.handler(0, 0, 90);
        b.run(10);
        Check.due("used, steps", b.is(Bench.STEPS), 10);
        Check.due("used, saved", b.is(Bench.SAVED), 1);
        Check.due("used, calls", b.is(Bench.CALLS), 1);
        Check.due("used, returns", b.is(Bench.RETURNS), 1);
        Check.due("used, faults", b.is(Bench.FAULTS), 1);
        Check.due("used, stack", b.x.peek(0, 4, 7), 9);
        return b;
    }

    // Promise 8: "begins anew, RUNNING: .. all else 0"
    private static void startAllElse0() {
        Bench b = used();
        Check.due("anew", b.x.start(0, 1, 5, 6), true);
        int[] due = new int[19 + 24];
        due[0] = Bench.RUNNING;
        due[1] = 6;
        due[2] = 8;
        due[3] = 5;
        due[16] = 9;
        for (int n = 0; n < 8; n++) {
            due[19 + 3 * n] = 6;
        }
        Check.dueAll("anew", b.everything(), due);
    }

    // Promise 8: "STACKS 0"
    private static void startWithStacks0() {
        Bench b = new Bench();
        for (int k = 0; k < 8; k++) {
            b.put(2 + 2 * k, Orders.indirect(Orders.own(Orders.STORE, 50 + 2 * k)));
            b.put(3 + 2 * k, Orders.indirect(Orders.own(Orders.STORE, 51 + 2 * k)));
            b.put(50 + 2 * k, Orders.pointerWord(0, k, 0), Orders.pointerWord(0, k, 63));
        }
        b.put(0, Orders.immediate(Orders.LOAD, 6), Orders.own(Orders.GO, 2)).start(0).run(18);
        for (int i = 0; i < 16; i++) {
            Check.due("stack " + i / 2 + " was written", b.x.peek(0, i / 2, i % 2 * 63), 6);
        }
        b.start(0);
        for (int i = 0; i < 16; i++) {
            Check.due("stack " + i / 2 + " is 0", b.x.peek(0, i / 2, i % 2 * 63), 0);
        }
    }

    // Promise 8: "it KNOWS segment s as 8"
    private static void startKnowsOne() {
        Bench b = used();
        b.x.start(0, 1, 0, 0);
        Check.due("as 8", b.x.known(0, 8), 1);
        Check.due("what it knew is gone", b.x.known(0, 9), NONE);
        Check.due("the stacks are there", b.x.known(0, 7), -2);
        Check.due("the other is the next now", b.x.handler(0, 0, 0), 9);
    }

    // Promise 8: "nothing linked"
    private static void startNothingLinked() {
        Bench b = used();
        b.x.link(0, 0, 99, 1);
        b.does(4, Orders.byLink(Orders.LOAD, 0));
        Check.dueAll("must be linked anew", b.fault(), 12, 4, 8, 0);
    }

    // Promise 8: "nothing saved, no handler"
    private static void startNothingSavedNoHandler() {
        Bench b = used();
        b.does(0, Orders.own(Orders.RESUME, 0));
        Check.dueAll("nothing saved", b.fault(), 13, 0, 8, 0);
        Check.due("no handler", b.is(Bench.STATUS), Bench.FAULTED);
        b.start(3);
        b.x.handler(0, 0, 60);
        b.put(0, NO_ORDER).run(1);
        Check.due("with a handler again", b.is(Bench.STATUS), Bench.RUNNING);
    }

    // Promise 8: "PROCESS p begins anew, RUNNING"
    private static void startFromEveryState() {
        for (int state = Bench.RUNNING; state <= Bench.DEAD; state++) {
            Bench b = inState(state);
            Check.due("begins anew from " + state, b.x.start(0, 0, 7, 2), true);
            Check.due("RUNNING", b.is(Bench.STATUS), Bench.RUNNING);
            Check.dueAll("its place", b.place(), 2, 8, 7);
        }
    }

    /** A process that is RUNNING, HALTED, FAULTED or DEAD. */
    private static Bench inState(int state) {
        Bench b = new Bench();
        int first = state == Bench.RUNNING ? Orders.own(Orders.GO, 0)
            : state == Bench.HALTED ? Orders.own(Orders.HALT, 0) : NO_ORDER;
        b.put(0, first).start(3);
        if (state == Bench.DEAD) {
            b.x.handler(0, 0, 65535);
        }
        b.run(2);
        Check.due("state", b.is(Bench.STATUS), state);
        return b;
    }

    // Promise 8: "False, doing nothing: no such process, segment, ring; k is not 0 to 65535."
    private static void startRefused() {
        Bench b = used();
        int[] before = b.everything();
        for (int p : new int[] {MIN, -1, 4, 5, MAX}) {
            Check.due("process " + p, b.x.start(p, 0, 0, 0), false);
        }
        for (int s : new int[] {MIN, -2, -1, 2, 31, 32, MAX}) {
            Check.due("segment " + s, b.x.start(0, s, 0, 0), false);
        }
        for (int ring : new int[] {MIN, -1, 8, 9, MAX}) {
            Check.due("ring " + ring, b.x.start(0, 0, 0, ring), false);
        }
        for (int k : new int[] {MIN, -1, 65536, 65537, MAX}) {
            Check.due("word " + k, b.x.start(0, 0, k, 0), false);
        }
        Check.dueAll("doing nothing", b.everything(), before);
        Check.due("the stack stays", b.x.peek(0, 4, 7), 9);
        int[][] wrong = {{-1, 0, 0}, {2, 0, 0}, {0, -1, 0}, {0, 65536, 0}, {0, 0, -1}, {0, 0, 8}};
        for (int[] w : wrong) {
            Check.due("none is there by it", b.x.start(3, w[0], w[1], w[2]), false);
            Check.due("none is there by it, state", b.x.state(3, 0), 0);
            Check.due("none is there by it, stack", b.x.known(3, 0), NONE);
            Check.due("none is there by it, run", b.x.run(3, 1), NONE);
        }
        Check.due("process 3", b.x.start(3, 0, 65535, 7), true);
    }

    // Promise 9: "word k of segment s, which it KNOWS then: its number"
    private static void handlerNumber() {
        for (int p = 0; p < 4; p++) {
            Bench b = new Bench(p);
            int s = b.other(7, 0, 0, 0, 0, 0);
            b.start(5);
            Check.due("one that it knows", b.x.handler(p, 0, 0), 8);
            Check.due("no more known", b.is(Bench.KNOWS), 9);
            Check.due("one that it does not know", b.x.handler(p, s, 65535), 9);
            Check.due("one more known, also without flags", b.is(Bench.KNOWS), 10);
            Check.due("known as that", b.x.known(p, 9), s);
            Check.due("the first word", b.x.handler(p, s, 0), 9);
        }
    }

    // Promise 9: a process that is there has a handler, whatever it is.
    private static void handlerOfEveryState() {
        for (int state = Bench.RUNNING; state <= Bench.DEAD; state++) {
            Bench b = inState(state);
            Check.due("handler of " + state, b.x.handler(0, 0, 50), 8);
            Check.due("it stays what it is", b.is(Bench.STATUS), state);
        }
    }

    // Promise 9: "The handler of process p": the latest one, also while something is saved.
    private static void handlerReplaced() {
        Bench b = new Bench();
        int s = b.other(7, 7, 0, 7, 7, 0);
        b.x.word(s, 4, Orders.own(Orders.RESUME, 0));
        b.put(0, NO_ORDER).put(60, Orders.own(Orders.RESUME, 0)).start(3);
        b.x.handler(0, 0, 60);
        Check.dueAll("the first", b.run(1).place(), 0, 8, 60);
        b.x.handler(0, s, 4);
        Check.dueAll("it goes on at its place", b.place(), 0, 8, 60);
        Check.dueAll("the second", b.run(2).place(), 0, 9, 4);
        b.x.handler(0, s, 65536);
        b.x.handler(0, 2, 7);
        Check.dueAll("a refused one changes nothing", b.run(2).place(), 0, 9, 4);
    }

    // Promise 9: "NONE, doing nothing: no such process (it is not there), segment; k is not 0 to 65535."
    private static void handlerRefused() {
        Bench b = new Bench();
        int s = b.other(7, 7, 0, 7, 7, 0);
        b.put(0, NO_ORDER).start(3);
        for (int p : new int[] {MIN, -1, 1, 2, 3, 4, MAX}) {
            Check.due("process " + p, b.x.handler(p, s, 0), NONE);
        }
        for (int none : new int[] {MIN, -2, -1, 2, 8, 31, 32, MAX}) {
            Check.due("segment " + none, b.x.handler(0, none, 0), NONE);
        }
        for (int k : new int[] {MIN, -1, 65536, MAX}) {
            Check.due("word " + k, b.x.handler(0, s, k), NONE);
        }
        Check.due("nothing is known by it", b.is(Bench.KNOWS), 9);
        Check.due("nothing is there by it", b.x.state(1, 0), 0);
        Check.due("no handler by it", b.run(1).is(Bench.STATUS), Bench.FAULTED);
    }

    // Promise 10: "At most n STEPS (0 to 500) of process p"
    private static void runAtMostN() {
        for (int p = 0; p < 4; p++) {
            Bench b = new Bench(p).put(0, Orders.immediate(Orders.ADD, 1), Orders.own(Orders.GO, 0)).start(3);
            Check.due("0 steps", b.x.run(p, 0), 0);
            Check.due("0 steps do nothing", b.is(Bench.A), 0);
            Check.due("0 steps, still running", b.is(Bench.STATUS), Bench.RUNNING);
            Check.due("1 step", b.x.run(p, 1), 1);
            Check.dueAll("1 step", b.place(), 3, 8, 1);
            Check.due("499 steps", b.x.run(p, 499), 499);
            Check.due("half of them", b.is(Bench.A), 250);
            Check.due("500 steps", b.x.run(p, 500), 500);
            Check.due("half of them", b.is(Bench.A), 500);
            Check.due("steps", b.is(Bench.STEPS), 1000);
        }
    }

    // Promise 10: "as long as it is RUNNING"
    private static void runOnlyWhileRunning() {
        for (int state = Bench.HALTED; state <= Bench.DEAD; state++) {
            Bench b = inState(state);
            int[] before = b.everything();
            Check.due("no step of " + state, b.x.run(0, 1), 0);
            Check.due("no step of " + state, b.x.run(0, 500), 0);
            Check.dueAll("all stays", b.everything(), before);
        }
        Bench b = new Bench().put(3, Orders.immediate(Orders.LOAD, 1), Orders.own(Orders.HALT, 0));
        b.put(0, Orders.own(Orders.GO, 3)).start(3);
        Check.due("until it halts", b.x.run(0, 500), 3);
    }

    // Promise 10: "how many were done, faulting ones too"
    private static void runCountsFaultingSteps() {
        Bench b = new Bench().put(0, Orders.immediate(Orders.LOAD, 1), NO_ORDER).start(3);
        Check.due("the faulting one", b.x.run(0, 500), 2);
        Check.due("steps", b.is(Bench.STEPS), 2);
        b = new Bench().put(0, NO_ORDER).put(60, Orders.own(Orders.RESUME, 0)).start(3);
        b.x.handler(0, 0, 60);
        Check.due("faults and resumes", b.x.run(0, 500), 500);
        Check.due("steps", b.is(Bench.STEPS), 500);
        Check.due("faults", b.is(Bench.FAULTS), 250);
        b.put(60, NO_ORDER);
        Check.due("the one that ends it", b.x.run(0, 500), 2);
        Check.due("DEAD", b.is(Bench.STATUS), Bench.DEAD);
        Check.due("steps", b.is(Bench.STEPS), 502);
        Check.due("faults", b.is(Bench.FAULTS), 252);
    }

    // Promise 10: "NONE, doing nothing: no such process, it is not there, another n."
    private static void runRefused() {
        Bench b = new Bench().put(0, Orders.immediate(Orders.ADD, 1), Orders.own(Orders.HALT, 0)).start(3);
        int[] before = b.everything();
        for (int n : new int[] {MIN, -500, -1, 501, 502, MAX}) {
            Check.due(n + " steps", b.x.run(0, n), NONE);
        }
        for (int p : new int[] {MIN, -1, 4, MAX}) {
            Check.due("process " + p, b.x.run(p, 1), NONE);
        }
        for (int p = 1; p < 4; p++) {
            Check.due("it is not there: " + p, b.x.run(p, 1), NONE);
            Check.due("it is not there, no step: " + p, b.x.run(p, 0), NONE);
        }
        Check.dueAll("doing nothing", b.everything(), before);
        b = inState(Bench.HALTED);
        Check.due("another n of a halted one", b.x.run(0, 501), NONE);
    }

    // Promise 11: what each number tells, no two of them alike where they can differ
    private static void stateOfAll() {
        for (int p = 0; p < 4; p++) {
            Bench b = new Bench(p);
            int s = b.other(7, 7, 0, 7, 7, 0);
            b.put(0, Orders.immediate(Orders.LOAD, -7), Orders.of(1, Orders.immediate(Orders.LOAD_X, 11)),
                Orders.of(2, Orders.immediate(Orders.LOAD_X, -12)), Orders.of(3, Orders.immediate(Orders.LOAD_X, 13)),
                Orders.immediate(Orders.COMPARE, 0), Orders.own(Orders.CALL, 6), Orders.own(Orders.CALL, 7),
                Orders.own(Orders.RETURN, 50));
            b.put(50, Orders.pointerWord(5, 8, 60)).put(60, Orders.own(Orders.LOAD, -300)).start(4);
            Check.dueAll("ahead of the fault", b.run(8).registers(), -7, 11, -12, 13, -1);
            b.x.handler(p, s, 14);
            b.run(1);
            int[] due = {1, 0, 9, 14, 2, 11, -12, 13, -1, 2, 5, 8, -300, 9, 1, 1, 10, 2, 1};
            for (int what = 0; what < due.length; what++) {
                Check.due("state " + what, b.is(what), due[what]);
            }
        }
    }

    // Promise 11: "0 of others, or if it is not there."
    private static void stateOfOthers() {
        Bench b = used();
        for (int what : new int[] {MIN, -1, 19, 20, 31, 256, MAX}) {
            Check.due("what " + what, b.is(what), 0);
        }
        for (int what = 0; what < 19; what++) {
            for (int p : new int[] {MIN, -1, 1, 2, 3, 4, MAX}) {
                Check.due("process " + p + " what " + what, b.x.state(p, what), 0);
            }
        }
    }

    // Promise 12: "its ring (0), number (1), word (2). NONE: there is none such."
    private static void pointerRefused() {
        Bench b = new Bench().put(50, Orders.pointerWord(6, 4095, 65535));
        b.does(4, Orders.of(7, Orders.indirect(Orders.own(Orders.POINT, 50))),
            Orders.of(0, Orders.own(Orders.POINT, 33)));
        Check.dueAll("the last", b.pointer(7), 6, 4095, 65535);
        Check.dueAll("the first", b.pointer(0), 4, 8, 33);
        Check.dueAll("between", b.pointer(3), 4, 0, 0);
        for (int n : new int[] {MIN, -1, 8, 9, MAX}) {
            for (int what = 0; what < 3; what++) {
                Check.due("pointer " + n, b.x.pointer(0, n, what), NONE);
            }
        }
        for (int what : new int[] {MIN, -1, 3, 4, MAX}) {
            Check.due("what " + what, b.x.pointer(0, 7, what), NONE);
        }
        for (int p : new int[] {MIN, -1, 1, 2, 3, 4, MAX}) {
            Check.due("process " + p, b.x.pointer(p, 0, 0), NONE);
        }
    }

    // Promise 13: "0 where there is none"
    private static void peekWhereThereIsNone() {
        Bench b = used();
        for (int k = 0; k < 20; k++) {
            b.x.word(1, k, 1000 + k);
        }
        b.put(0, 500).put(99, 599);
        Check.due("the first word", b.x.peek(0, 8, 0), 500);
        Check.due("the last word", b.x.peek(0, 8, 99), 599);
        Check.due("of what was linked", b.x.peek(0, 9, 19), 1019);
        Check.due("of a stack", b.x.peek(0, 4, 7), 9);
        for (int k : new int[] {MIN, -1, 100, 255, 256, MAX}) {
            Check.due("word " + k, b.x.peek(0, 8, k), 0);
        }
        Check.due("behind a shorter one", b.x.peek(0, 9, 20), 0);
        for (int k : new int[] {MIN, -1, 64, 65, MAX}) {
            Check.due("word " + k + " of a stack", b.x.peek(0, 4, k), 0);
        }
        for (int number : new int[] {MIN, -2, -1, 10, 39, 40, 41, 4095, MAX}) {
            Check.due("number " + number, b.x.peek(0, number, 0), 0);
        }
        for (int p : new int[] {MIN, -1, 1, 2, 3, 4, MAX}) {
            Check.due("process " + p, b.x.peek(p, 8, 0), 0);
        }
        b.start(0);
        Check.due("what it knew is gone", b.x.peek(0, 9, 19), 0);
    }

    // Promise 13: "what process p KNOWS as a number"
    private static void peekOfEveryProcess() {
        Counted x = new Counted();
        for (int p = 0; p < 4; p++) {
            x.segment(p, 2);
            x.word(p, 1, 70 + p);
            x.start(p, p, 0, 0);
        }
        for (int p = 0; p < 4; p++) {
            Check.due("its 8", x.peek(p, 8, 1), 70 + p);
            Check.due("its 8 is known", x.known(p, 8), p);
            x.handler(p, 3 - p, 0);
            Check.due("its 9", x.peek(p, 9, 1), 73 - p);
            Check.due("its 9 is known", x.known(p, 9), 3 - p);
        }
    }

    // Promise 15: "-2 for a STACK; NONE: there is none such"
    private static void knownRefused() {
        Bench b = used();
        for (int k = 0; k < 8; k++) {
            Check.due("stack " + k, b.x.known(0, k), -2);
        }
        Check.due("8", b.x.known(0, 8), 0);
        Check.due("9", b.x.known(0, 9), 1);
        for (int number : new int[] {MIN, -2, -1, 10, 39, 40, 41, 4095, MAX}) {
            Check.due("number " + number, b.x.known(0, number), NONE);
        }
        for (int p : new int[] {MIN, -1, 1, 2, 3, 4, MAX}) {
            Check.due("process " + p, b.x.known(p, 0), NONE);
            Check.due("process " + p, b.x.known(p, 8), NONE);
        }
    }

    // Promise 16: "1 or 0; NONE: none such"
    private static void mayRefused() {
        Bench b = used();
        Check.due("the first ring", b.x.may(0, 0, 8, 0), 1);
        Check.due("the last ring", b.x.may(0, 7, 8, 0), 1);
        Check.due("the last ring, write", b.x.may(0, 7, 8, 1), 0);
        Check.due("the last ring, execute", b.x.may(0, 7, 8, 2), 1);
        for (int ring : new int[] {MIN, -1, 8, 9, MAX}) {
            for (int how = 0; how < 3; how++) {
                Check.due("ring " + ring, b.x.may(0, ring, 8, how), NONE);
            }
        }
        for (int how : new int[] {MIN, -1, 3, 4, MAX}) {
            Check.due("how " + how, b.x.may(0, 3, 8, how), NONE);
        }
        for (int number : new int[] {MIN, -2, -1, 10, 39, 40, 4095, MAX}) {
            Check.due("number " + number, b.x.may(0, 3, number, 0), NONE);
        }
        for (int p : new int[] {MIN, -1, 1, 2, 3, 4, MAX}) {
            Check.due("process " + p, b.x.may(p, 3, 8, 0), NONE);
        }
    }

    /** Says 1, 2, 3 .. n. */
    private static Bench says(int n) {
        Bench b = new Bench();
        b.put(0, Orders.immediate(Orders.ADD, 1), Orders.own(Orders.SAY, 0), Orders.own(Orders.GO, 0)).start(0);
        for (int left = 3 * n; left > 0; left -= 500) {
            b.run(Math.min(left, 500));
        }
        return b;
    }

    // Promise 17: "0 where there is none"
    private static void saidWhereThereIsNone() {
        Bench b = says(3);
        Check.due("three were said", b.x.sayings(), 3);
        for (int i = 0; i < 3; i++) {
            Check.due("said " + i, b.x.said(i), i + 1);
        }
        for (int i : new int[] {MIN, -200, -1, 3, 4, 199, 200, 201, MAX}) {
            Check.due("said " + i, b.x.said(i), 0);
        }
    }

    // Promise 17: "the first 200 are kept"; promise 18: "How many were said."
    private static void first200AreKept() {
        for (int n : new int[] {199, 200, 201, 600}) {
            Bench b = says(n);
            Check.due("how many", b.x.sayings(), n);
            for (int i = 0; i < 205; i++) {
                Check.due("said " + i + " of " + n, b.x.said(i), i < Math.min(n, 200) ? i + 1 : 0);
            }
            Check.due("said -1", b.x.said(-1), 0);
            Check.due("the last of all", b.x.said(n - 1), n <= 200 ? n : 0);
        }
    }

    // Promise 17: "The i-th number that was said, by any process"
    private static void saidByAnyProcess() {
        Counted x = new Counted();
        x.segment(1, 10);
        x.word(0, 0, Orders.own(Orders.ADD, 3));
        x.word(0, 1, Orders.own(Orders.SAY, 0));
        x.word(0, 2, Orders.own(Orders.GO, 0));
        for (int round = 0; round < 2; round++) {
            for (int p = 3; p >= 0; p--) {
                x.flags(0, p, 7);
                x.word(0, 3, -10 * p + round);
                x.start(p, 0, 0, 0);
                x.run(p, 2);
            }
        }
        Check.due("by all processes", x.sayings(), 8);
        for (int i = 0; i < 8; i++) {
            Check.due("said " + i, x.said(i), -10 * (3 - i % 4) + i / 4);
        }
    }

    // "An object is used for at most 512 calls after it has been made": all of them hold
    private static void all512Calls() {
        Bench b = new Bench();
        b.put(0, Orders.immediate(Orders.ADD, 1), Orders.own(Orders.SAY, 0), Orders.own(Orders.CALL, 3), NO_ORDER);
        b.put(60, Orders.own(Orders.GO, 61), Orders.of(1, Orders.immediate(Orders.LOAD_X, 1)),
            Orders.own(Orders.RESUME, 0));
        b.put(4, Orders.own(Orders.RETURN, 50)).put(50, Orders.pointerWord(0, 8, 0)).start(0);
        b.x.handler(0, 0, 60);
        int runs = 0;
        while (b.x.callsLeft() > 12) {
            Check.due("500 steps", b.x.run(0, 500), 500);
            runs++;
        }
        int steps = 500 * runs;
        Check.due("steps", b.is(Bench.STEPS), steps);
        Check.due("A", b.is(Bench.A), (steps + 7) / 8);
        Check.due("sayings", b.x.sayings(), (steps + 6) / 8);
        Check.due("calls", b.is(Bench.CALLS), (steps + 5) / 8);
        Check.due("faults", b.is(Bench.FAULTS), (steps + 4) / 8);
        Check.due("returns", b.is(Bench.RETURNS), steps / 8);
        Check.due("knows", b.is(Bench.KNOWS), 9);
        Check.due("the last saying kept", b.x.said(199), 200);
        Check.due("RUNNING", b.is(Bench.STATUS), Bench.RUNNING);
        Check.due("calls left", b.x.callsLeft() >= 0, true);
    }
}
