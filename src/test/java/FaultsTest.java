/** Promises 9, 10, 11, 17 and 18: faults, the handler, RESUME, and what is said. */
public final class FaultsTest {
    public static void main(String[] args) {
        withoutHandler();
        taken();
        lowest16Bits();
        resumeAgain();
        resumeFurther();
        resumeFarWord();
        dead();
        handlerOutside();
        ringOfHandler();
        sayings();
        manySayings();
        Check.finish();
    }

    private static void withoutHandler() {
        Bench b = new Bench();
        b.does(3, Orders.immediate(Orders.LOAD, 9), Orders.own(Orders.ADD, 100));
        Check.due("10 faulted", b.is(Bench.STATUS), Bench.FAULTED);
        Check.dueAll("10 the place stays", b.place(), 3, 8, 1);
        Check.due("10 A stays", b.is(Bench.A), 9);
        Check.dueAll("10 P1 stays", b.pointer(1), 3, 0, 0);
        Check.due("11 nothing saved", b.is(Bench.SAVED), 0);
        Check.due("11 faults", b.is(Bench.FAULTS), 1);
    }

    private static Bench faulting(int... program) {
        Bench b = new Bench().put(0, program);
        b.start(3);
        b.x.handler(0, 0, 60);
        return b;
    }

    private static void taken() {
        Bench b = faulting(Orders.immediate(Orders.LOAD, 9), Orders.of(1, Orders.immediate(Orders.LOAD_X, 5)),
            Orders.immediate(Orders.COMPARE, 2), Orders.own(Orders.LOAD, 100));
        b.run(4);
        Check.due("9 running", b.is(Bench.STATUS), Bench.RUNNING);
        Check.dueAll("9 the handler's place", b.place(), 0, 8, 60);
        Check.due("9 A is the kind", b.is(Bench.A), 2);
        Check.dueAll("9 P1 is the address", b.pointer(1), 3, 8, 100);
        Check.dueAll("9 the other pointers stay", b.pointer(2), 3, 0, 0);
        Check.due("9 X1 stays", b.is(Bench.X1), 5);
        Check.due("9 the condition stays", b.is(Bench.CONDITION), 1);
        Check.due("9 saved", b.is(Bench.SAVED), 1);
        Check.due("11 faults", b.is(Bench.FAULTS), 1);
        Check.due("11 steps", b.is(Bench.STEPS), 4);
    }

    private static void lowest16Bits() {
        Bench b = faulting(Orders.own(Orders.LOAD, -2));
        b.run(1);
        Check.dueAll("11 the whole word", b.fault(), 2, 3, 8, -2);
        Check.dueAll("9 its lowest 16 bits", b.pointer(1), 3, 8, 65534);
        b = faulting(Orders.byLink(Orders.LOAD, -5));
        b.run(1);
        Check.dueAll("9 of a link too", b.pointer(1), 3, 8, 65531);
    }

    private static void resumeAgain() {
        Bench b = faulting(Orders.of(2, Orders.immediate(Orders.LOAD_X, 7)), Orders.immediate(Orders.COMPARE, 1),
            Orders.of(4, Orders.own(Orders.POINT, 44)), Orders.own(31, 0));
        b.put(60, Orders.immediate(Orders.LOAD, 1), Orders.of(2, Orders.immediate(Orders.LOAD_X, 9)),
            Orders.of(3, Orders.immediate(Orders.LOAD_X, 9)), Orders.immediate(Orders.COMPARE, 0),
            Orders.of(4, Orders.own(Orders.POINT, 45)), Orders.own(Orders.RESUME, 0));
        b.run(10);
        Check.dueAll("25 the place that was saved", b.place(), 3, 8, 3);
        Check.due("25 A", b.is(Bench.A), 0);
        Check.due("25 X2", b.is(Bench.X2), 7);
        Check.due("25 X3", b.is(Bench.X3), 0);
        Check.due("25 condition", b.is(Bench.CONDITION), -1);
        Check.dueAll("25 P1", b.pointer(1), 3, 0, 0);
        Check.dueAll("25 P4", b.pointer(4), 3, 8, 44);
        Check.due("25 nothing saved any more", b.is(Bench.SAVED), 0);
        Check.due("25 the latest fault stays", b.is(Bench.KIND), 13);
        b.run(1);
        Check.due("25 the next fault is taken", b.is(Bench.STATUS), Bench.RUNNING);
        Check.due("25 and counted", b.is(Bench.FAULTS), 2);
    }

    private static void resumeFurther() {
        Bench b = faulting(Orders.of(1, Orders.immediate(Orders.LOAD_X, 3)), Orders.own(31, 0));
        b.put(60, Orders.own(Orders.RESUME, 0));
        b.run(3);
        Check.dueAll("25 X1 as it was ahead", b.place(), 3, 8, 2);
        Check.due("25 X1 comes back", b.is(Bench.X1), 3);
        b = faulting(Orders.own(31, 0));
        b.put(60, Orders.of(1, Orders.immediate(Orders.LOAD_X, -1)), Orders.own(Orders.RESUME, 0));
        b.run(3);
        Check.dueAll("25 X1 that the handler set", b.place(), 3, 8, 1);
        Check.due("25 X1 is the saved one", b.is(Bench.X1), 0);
        b = faulting(Orders.of(1, Orders.immediate(Orders.LOAD_X, 3)), Orders.own(31, 0));
        b.put(60, Orders.of(1, Orders.immediate(Orders.LOAD_X, 0)), Orders.own(Orders.RESUME, 0));
        b.run(4);
        Check.dueAll("25 X1 that the handler cleared", b.place(), 3, 8, 1);
    }

    private static void resumeFarWord() {
        Bench b = new Bench();
        b.put(60, Orders.of(1, Orders.immediate(Orders.LOAD_X, 1)), Orders.own(Orders.RESUME, 0));
        b.x.start(0, 0, 65535, 3);
        b.x.handler(0, 0, 60);
        b.run(3);
        Check.dueAll("25 a place has no highest word", b.place(), 3, 8, 65536);
        b.run(1);
        Check.dueAll("25 its fetch", b.fault(), 2, 3, 8, 65536);
        Check.dueAll("25 its P1", b.pointer(1), 3, 8, 0);
    }

    private static void dead() {
        Bench b = faulting(Orders.own(31, 0));
        b.put(60, Orders.immediate(Orders.LOAD, 4), Orders.own(Orders.LOAD, 100));
        Check.due("10 three steps", b.x.run(0, 9), 3);
        Check.due("10 dead", b.is(Bench.STATUS), Bench.DEAD);
        Check.dueAll("10 the latest fault", b.fault(), 2, 0, 8, 100);
        Check.dueAll("10 dead, the place stays", b.place(), 0, 8, 61);
        Check.due("10 dead, A stays", b.is(Bench.A), 4);
        Check.dueAll("10 dead, P1 stays", b.pointer(1), 3, 8, 0);
        Check.due("11 faults", b.is(Bench.FAULTS), 2);
        Check.due("11 still saved", b.is(Bench.SAVED), 1);
        Check.due("10 no more steps", b.x.run(0, 9), 0);
        Check.due("8 anew", b.x.start(0, 0, 0, 3), true);
        Check.due("8 alive", b.is(Bench.STATUS), Bench.RUNNING);
    }

    private static void handlerOutside() {
        Bench b = faulting(Orders.own(31, 0));
        b.x.handler(0, 0, 65535);
        Check.due("9 a word that is not there", b.x.run(0, 9), 2);
        Check.due("9 dead", b.is(Bench.STATUS), Bench.DEAD);
        Check.dueAll("9 its fetch", b.fault(), 2, 0, 8, 65535);
    }

    private static void ringOfHandler() {
        Bench b = new Bench().brackets(1, 7, 7, 0);
        b.put(0, Orders.own(31, 0)).start(3);
        b.x.handler(0, 0, 60);
        b.run(2);
        Check.dueAll("9 the handler runs in ring 0", b.fault(), 5, 0, 8, 60);
    }

    private static void sayings() {
        Bench b = new Bench();
        b.put(0, Orders.immediate(Orders.LOAD, 11), Orders.own(Orders.SAY, 0), Orders.immediate(Orders.LOAD, -12),
            Orders.own(Orders.SAY, 0));
        b.x.flags(0, 2, 7);
        b.start(0).run(2);
        b.x.start(2, 0, 2, 0);
        b.x.run(2, 2);
        b.run(1);
        Check.due("18 sayings", b.x.sayings(), 2);
        Check.due("17 the first", b.x.said(0), 11);
        Check.due("17 by another process", b.x.said(1), -12);
        Check.due("17 none behind", b.x.said(2), 0);
        Check.due("17 none ahead", b.x.said(-1), 0);
        Check.due("17 least", b.x.said(Integer.MIN_VALUE), 0);
        Check.due("17 most", b.x.said(Integer.MAX_VALUE), 0);
        b.start(0);
        Check.due("18 a start unsays nothing", b.x.sayings(), 2);
    }

    private static void manySayings() {
        Bench b = new Bench();
        b.put(0, Orders.immediate(Orders.ADD, 1), Orders.own(Orders.SAY, 0), Orders.own(Orders.GO, 0));
        b.start(0).run(500).run(500);
        Check.due("18 all are counted", b.x.sayings(), 333);
        Check.due("17 the last one kept", b.x.said(199), 200);
        Check.due("17 the first one not kept", b.x.said(200), 0);
        Check.due("17 the first", b.x.said(0), 1);
    }
}
