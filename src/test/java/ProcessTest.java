/** Promises 8 to 13, 15 and 16: processes, and what is asked of them. */
public final class ProcessTest {
    private static final int NONE = RingWarden.NONE;

    public static void main(String[] args) {
        start();
        startAnew();
        stacksAnew();
        startRefused();
        handler();
        run();
        state();
        pointer();
        knownAndPeek();
        may();
        apart();
        Check.finish();
    }

    private static void start() {
        Bench b = new Bench();
        Check.due("8", b.x.start(0, 0, 5, 6), true);
        Check.due("8 running", b.is(Bench.STATUS), Bench.RUNNING);
        Check.dueAll("8 place", b.place(), 6, 8, 5);
        for (int what = 4; what <= 15; what++) {
            Check.due("8 all else 0: " + what, b.is(what), 0);
        }
        Check.due("8 knows", b.is(Bench.KNOWS), 9);
        Check.due("8 calls", b.is(Bench.CALLS), 0);
        Check.due("8 returns", b.is(Bench.RETURNS), 0);
        for (int n = 0; n < 8; n++) {
            Check.dueAll("8 pointer", b.pointer(n), 6, 0, 0);
        }
        Check.due("8 far word", b.x.start(0, 0, 65535, 0), true);
        Check.dueAll("8 far place", b.place(), 0, 8, 65535);
    }

    /** A process that has used all it has begins anew. */
    private static void startAnew() {
        Bench b = new Bench();
        int s = b.other(7, 7, 0, 7, 7, 20);
        b.x.define(s, 1, 2);
        b.x.link(0, 0, 7, 1);
        b.x.word(s, 2, Orders.own(Orders.RETURN, 3));
        b.x.word(s, 3, Orders.pointerWord(4, 8, 8));
        b.put(0, Orders.immediate(Orders.LOAD, 9), Orders.of(1, Orders.immediate(Orders.LOAD_X, 1)),
            Orders.of(2, Orders.immediate(Orders.LOAD_X, 2)), Orders.of(3, Orders.immediate(Orders.LOAD_X, 3)),
            Orders.immediate(Orders.COMPARE, 1), Orders.of(5, Orders.own(Orders.POINT, 50)),
            Orders.of(5, Orders.own(Orders.POINT, 50)), Orders.byLink(Orders.CALL, 0));
        b.put(8, Orders.byPointer(Orders.STORE, 0, 7), Orders.own(31, 0));
        b.start(4);
        b.x.handler(0, 0, 90);
        Check.due("10 all of it", b.run(11).is(Bench.STEPS), 11);
        Check.due("9 stored in a stack", b.x.peek(0, 4, 7), 9);
        Check.due("9 saved", b.is(Bench.SAVED), 1);
        Check.due("11 calls", b.is(Bench.CALLS), 1);
        Check.due("11 returns", b.is(Bench.RETURNS), 1);
        Check.due("11 knows", b.is(Bench.KNOWS), 10);
        Check.due("8 anew", b.x.start(0, s, 1, 3), true);
        Check.dueAll("8 anew, place", b.place(), 3, 8, 1);
        Check.due("8 anew, known", b.x.known(0, 8), s);
        Check.due("8 anew, known no more", b.x.known(0, 9), NONE);
        for (int what = 4; what <= 18; what++) {
            Check.due("8 anew, state " + what, b.is(what), what == Bench.KNOWS ? 9 : 0);
        }
        for (int n = 0; n < 8; n++) {
            Check.dueAll("8 anew, pointer", b.pointer(n), 3, 0, 0);
        }
        Check.due("8 anew, stack", b.x.peek(0, 4, 7), 0);
        b.x.word(s, 1, Orders.own(31, 0));
        Check.due("8 anew, no handler", b.run(1).is(Bench.STATUS), Bench.FAULTED);
        b.x.link(0, 0, 999, 1);
        b.does(4, Orders.byLink(Orders.LOAD, 0));
        Check.due("8 anew, nothing linked", b.is(Bench.KIND), 12);
    }

    private static void stacksAnew() {
        Bench b = new Bench();
        for (int ring = 0; ring < 8; ring++) {
            b.put(2 + ring, Orders.indirect(Orders.own(Orders.STORE, 50 + ring)));
            b.put(50 + ring, Orders.pointerWord(0, ring, 63));
        }
        b.put(0, Orders.immediate(Orders.LOAD, 6), Orders.own(Orders.GO, 2)).start(0).run(10);
        for (int ring = 0; ring < 8; ring++) {
            Check.due("13 stack " + ring, b.x.peek(0, ring, 63), 6);
        }
        b.start(0);
        for (int ring = 0; ring < 8; ring++) {
            Check.due("8 anew, stack " + ring, b.x.peek(0, ring, 63), 0);
        }
    }

    private static void startRefused() {
        Bench b = new Bench();
        b.x.start(0, 0, 5, 6);
        Check.due("8 process 4", b.x.start(4, 0, 0, 0), false);
        Check.due("8 process -1", b.x.start(-1, 0, 0, 0), false);
        Check.due("8 no such segment", b.x.start(0, 1, 0, 0), false);
        Check.due("8 segment below 0", b.x.start(0, -1, 0, 0), false);
        Check.due("8 word above", b.x.start(0, 0, 65536, 0), false);
        Check.due("8 word below", b.x.start(0, 0, -1, 0), false);
        Check.due("8 ring above", b.x.start(0, 0, 0, 8), false);
        Check.due("8 ring below", b.x.start(0, 0, 0, -1), false);
        Check.dueAll("8 refused does nothing", b.place(), 6, 8, 5);
        Check.due("8 refused makes none", b.x.start(1, 0, 0, 8), false);
        Check.due("8 refused makes none, state", b.x.state(1, 0), 0);
    }

    private static void handler() {
        Bench b = new Bench();
        int s = b.other(7, 7, 0, 0, 0, 0);
        Check.due("9 not there", b.x.handler(0, s, 0), NONE);
        b.start(4);
        Check.due("9 process 4", b.x.handler(4, s, 0), NONE);
        Check.due("9 process -1", b.x.handler(-1, s, 0), NONE);
        Check.due("9 segment", b.x.handler(0, s + 1, 0), NONE);
        Check.due("9 segment below 0", b.x.handler(0, -1, 0), NONE);
        Check.due("9 word below", b.x.handler(0, s, -1), NONE);
        Check.due("9 word above", b.x.handler(0, s, 65536), NONE);
        Check.due("9 refused does nothing", b.is(Bench.KNOWS), 9);
        Check.due("9 known already", b.x.handler(0, 0, 65535), 8);
        Check.due("9 the next number", b.x.handler(0, s, 3), 9);
        Check.due("9 again", b.x.handler(0, s, 4), 9);
        Check.due("9 knows", b.is(Bench.KNOWS), 10);
        Check.due("15 known", b.x.known(0, 9), s);
        b.put(0, Orders.own(31, 0)).run(1);
        Check.dueAll("9 the handler's place", b.place(), 0, 9, 4);
        b.does(4, Orders.own(Orders.HALT, 0));
        Check.due("9 of a halted one", b.x.handler(0, s, 0), 9);
    }

    private static void run() {
        Bench b = new Bench();
        b.put(0, Orders.own(Orders.GO, 0));
        Check.due("10 not there", b.x.run(0, 1), NONE);
        b.start(4);
        Check.due("10 process 4", b.x.run(4, 1), NONE);
        Check.due("10 process -1", b.x.run(-1, 1), NONE);
        Check.due("10 n -1", b.x.run(0, -1), NONE);
        Check.due("10 n 501", b.x.run(0, 501), NONE);
        Check.due("10 refused does nothing", b.is(Bench.STEPS), 0);
        Check.due("10 none", b.x.run(0, 0), 0);
        Check.due("10 500", b.x.run(0, 500), 500);
        Check.due("10 7 more", b.x.run(0, 7), 7);
        Check.due("11 steps", b.is(Bench.STEPS), 507);
        b.put(0, Orders.immediate(Orders.LOAD, 1), Orders.own(Orders.HALT, 0)).start(4);
        Check.due("10 until it halts", b.x.run(0, 9), 2);
        Check.due("10 halted", b.is(Bench.STATUS), Bench.HALTED);
        Check.dueAll("10 the place stays", b.place(), 4, 8, 1);
        Check.due("10 halted already", b.x.run(0, 9), 0);
        b.put(1, Orders.own(31, 0)).start(4);
        Check.due("10 the faulting one too", b.x.run(0, 9), 2);
        Check.due("10 faulted", b.is(Bench.STATUS), Bench.FAULTED);
        Check.due("10 faulted already", b.x.run(0, 9), 0);
        Check.due("11 steps of a faulted one", b.is(Bench.STEPS), 2);
    }

    private static void state() {
        Bench b = new Bench();
        b.does(4, Orders.immediate(Orders.LOAD, -7), Orders.of(1, Orders.immediate(Orders.LOAD_X, 11)),
            Orders.of(2, Orders.immediate(Orders.LOAD_X, 12)), Orders.of(3, Orders.immediate(Orders.LOAD_X, -13)),
            Orders.immediate(Orders.COMPARE, 0), Orders.own(Orders.LOAD, 100));
        int[] due = {3, 4, 8, 5, -7, 11, 12, -13, -1, 2, 4, 8, 100, 6, 1, 0, 9, 0, 0};
        for (int what = 0; what < due.length; what++) {
            Check.due("11 state " + what, b.is(what), due[what]);
        }
        Check.due("11 others", b.is(19), 0);
        Check.due("11 below 0", b.is(-1), 0);
        Check.due("11 no such process", b.x.state(4, 0), 0);
        Check.due("11 process below 0", b.x.state(-1, 0), 0);
        Check.due("11 not there", b.x.state(1, 16), 0);
    }

    private static void pointer() {
        Bench b = new Bench();
        b.does(4, Orders.of(7, Orders.own(Orders.POINT, 33)));
        Check.dueAll("12", b.pointer(7), 4, 8, 33);
        Check.due("12 what 3", b.x.pointer(0, 7, 3), NONE);
        Check.due("12 what -1", b.x.pointer(0, 7, -1), NONE);
        Check.due("12 n 8", b.x.pointer(0, 8, 0), NONE);
        Check.due("12 n -1", b.x.pointer(0, -1, 0), NONE);
        Check.due("12 process not there", b.x.pointer(1, 0, 0), NONE);
        Check.due("12 process 4", b.x.pointer(4, 0, 0), NONE);
        Check.due("12 process -1", b.x.pointer(-1, 0, 0), NONE);
    }

    private static void knownAndPeek() {
        Bench b = new Bench();
        int s = b.other(7, 7, 0, 0, 0, 0);
        b.x.word(s, 19, -5);
        b.does(4, Orders.immediate(Orders.LOAD, 6), Orders.byPointer(Orders.STORE, 0, 63));
        Check.due("13 before it is known", b.x.peek(0, 9, 19), 0);
        b.x.handler(0, s, 0);
        Check.due("13", b.x.peek(0, 9, 19), -5);
        Check.due("13 behind", b.x.peek(0, 9, 20), 0);
        Check.due("13 ahead", b.x.peek(0, 9, -1), 0);
        Check.due("13 not known", b.x.peek(0, 10, 0), 0);
        Check.due("13 number below 0", b.x.peek(0, -1, 0), 0);
        Check.due("13 not there", b.x.peek(1, 9, 19), 0);
        Check.due("13 process 4", b.x.peek(4, 9, 19), 0);
        Check.due("13 process -1", b.x.peek(-1, 9, 19), 0);
        Check.due("13 behind a stack", b.x.peek(0, 4, 64), 0);
        for (int ring = 0; ring < 8; ring++) {
            Check.due("15 stack", b.x.known(0, ring), -2);
        }
        Check.due("15 8", b.x.known(0, 8), 0);
        Check.due("15 9", b.x.known(0, 9), s);
        Check.due("15 10", b.x.known(0, 10), NONE);
        Check.due("15 below 0", b.x.known(0, -1), NONE);
        Check.due("15 far", b.x.known(0, Integer.MAX_VALUE), NONE);
        Check.due("15 not there", b.x.known(1, 0), NONE);
        Check.due("15 process 4", b.x.known(4, 0), NONE);
    }

    private static void may() {
        Bench b = new Bench().brackets(2, 4, 6, 0).start(4);
        int[][] due = {{1, 1, 0}, {1, 1, 0}, {1, 1, 1}, {1, 0, 1}, {1, 0, 1}, {0, 0, 0}, {0, 0, 0}, {0, 0, 0}};
        for (int ring = 0; ring < 8; ring++) {
            for (int how = 0; how < 3; how++) {
                Check.due("16 ring " + ring + " how " + how, b.x.may(0, ring, 8, how), due[ring][how]);
                Check.due("16 stack 3", b.x.may(0, ring, 3, how), ring <= 3 && how < 2 ? 1 : 0);
            }
        }
        Check.due("16 ring 8", b.x.may(0, 8, 8, 0), NONE);
        Check.due("16 ring -1", b.x.may(0, -1, 8, 0), NONE);
        Check.due("16 how 3", b.x.may(0, 0, 8, 3), NONE);
        Check.due("16 how -1", b.x.may(0, 0, 8, -1), NONE);
        Check.due("16 number 9", b.x.may(0, 0, 9, 0), NONE);
        Check.due("16 number -1", b.x.may(0, 0, -1, 0), NONE);
        Check.due("16 not there", b.x.may(1, 0, 0, 0), NONE);
        Check.due("16 process 4", b.x.may(4, 0, 0, 0), NONE);
        Check.due("16 process -1", b.x.may(-1, 0, 0, 0), NONE);
    }

    /** Segments are shared by processes, stacks and flags are not. */
    private static void apart() {
        Bench b = new Bench();
        b.put(0, Orders.immediate(Orders.LOAD, 8), Orders.own(Orders.STORE, 50), Orders.byPointer(Orders.STORE, 0, 1),
            Orders.own(Orders.HALT, 0));
        b.x.flags(0, 1, 4);
        b.x.start(0, 0, 0, 0);
        b.x.start(1, 0, 0, 0);
        b.x.start(3, 0, 0, 0);
        Check.due("10 process 0", b.x.run(0, 500), 4);
        Check.due("10 process 1 may not write", b.x.run(1, 500), 2);
        Check.due("10 its fault", b.x.state(1, Bench.KIND), 4);
        Check.due("10 process 3 may not execute", b.x.run(3, 500), 1);
        Check.due("10 process 3, its fault", b.x.state(3, Bench.KIND), 5);
        Check.due("13 shared", b.x.peek(1, 8, 50), 8);
        Check.due("13 stack of 0", b.x.peek(0, 0, 1), 8);
        Check.due("13 stack of 1", b.x.peek(1, 0, 1), 0);
    }
}
