/** Promise 10 (part 3 of the terms): CALL goes inwards through gates, RETURN outwards. */
public final class CallsTest {
    public static void main(String[] args) {
        callInwards();
        callWithinRing();
        callRefused();
        callByPointerRing();
        callOwnSegment();
        returnOutwards();
        returnRefused();
        Check.finish();
    }

    /** Segment 1 with some brackets and two gates; link 0 of segment 0 goes to its word 1, link 1 to its word 2. */
    private static Bench withTarget(int flags, int r1, int r2, int r3) {
        Bench b = new Bench();
        int s = b.other(7, flags, r1, r2, r3, 2);
        b.x.define(s, 1, 1);
        b.x.define(s, 2, 2);
        b.x.link(0, 0, 7, 1);
        b.x.link(0, 1, 7, 2);
        return b;
    }

    private static void callInwards() {
        Bench b = withTarget(4, 1, 2, 5);
        b.does(5, Orders.immediate(Orders.LOAD, 3), Orders.byLink(Orders.CALL, 0));
        Check.dueAll("20 the new ring is R2", b.place(), 2, 9, 1);
        Check.dueAll("20 P7", b.pointer(7), 5, 8, 2);
        Check.dueAll("20 P0", b.pointer(0), 2, 2, 0);
        Check.dueAll("20 the others stay", b.pointer(1), 5, 0, 0);
        Check.due("20 A stays", b.is(Bench.A), 3);
        Check.due("20 calls", b.is(Bench.CALLS), 1);
        Check.due("20 returns", b.is(Bench.RETURNS), 0);
    }

    private static void callWithinRing() {
        for (int ring = 1; ring <= 2; ring++) {
            Bench b = withTarget(4, 1, 2, 5);
            b.does(ring, Orders.byLink(Orders.CALL, 0));
            Check.dueAll("20 in the same ring " + ring, b.place(), ring, 9, 1);
            Check.dueAll("20 P0 of " + ring, b.pointer(0), ring, ring, 0);
            Check.dueAll("20 P7 of " + ring, b.pointer(7), ring, 8, 1);
        }
    }

    private static void callRefused() {
        Bench b = withTarget(4, 1, 2, 5);
        b.does(4, Orders.byLink(Orders.CALL, 1));
        Check.dueAll("20 not a gate", b.fault(), 6, 4, 9, 2);
        Check.dueAll("20 the place stays", b.place(), 4, 8, 0);
        Check.dueAll("20 P7 stays", b.pointer(7), 4, 0, 0);
        Check.due("20 no call was done", b.is(Bench.CALLS), 0);
        b.does(0, Orders.byLink(Orders.CALL, 0));
        Check.dueAll("20 below R1", b.fault(), 7, 0, 9, 1);
        b.does(6, Orders.byLink(Orders.CALL, 0));
        Check.dueAll("20 above R3", b.fault(), 8, 6, 9, 1);
        b.does(6, Orders.byLink(Orders.CALL, 1));
        Check.dueAll("20 6 ahead of 8", b.fault(), 6, 6, 9, 2);
        b.x.flags(1, 0, 3);
        b.does(6, Orders.byLink(Orders.CALL, 1));
        Check.dueAll("20 5 ahead of 6", b.fault(), 5, 6, 9, 2);
        b.does(6, Orders.of(1, Orders.immediate(Orders.LOAD_X, 18)), Orders.indexed(Orders.byLink(Orders.CALL, 1), 1));
        Check.dueAll("20 2 ahead of 5", b.fault(), 2, 6, 9, 20);
        b.put(50, Orders.pointerWord(7, 10, 300), Orders.pointerWord(0, 0, 0));
        b.does(6, Orders.indirect(Orders.own(Orders.CALL, 50)));
        Check.dueAll("20 not known", b.fault(), 1, 7, 10, 300);
        b.does(6, Orders.indirect(Orders.own(Orders.CALL, 51)));
        Check.dueAll("20 a stack", b.fault(), 5, 6, 0, 0);
    }

    private static void callByPointerRing() {
        Bench b = withTarget(4, 1, 5, 6);
        b.put(50, Orders.pointerWord(4, 9, 1), Orders.pointerWord(7, 9, 1));
        b.does(3, Orders.byLink(Orders.TRY_READ, 0), Orders.indirect(Orders.own(Orders.CALL, 50)));
        Check.dueAll("20 the new ring would be outwards", b.fault(), 9, 4, 9, 1);
        b.does(4, Orders.byLink(Orders.TRY_READ, 0), Orders.indirect(Orders.own(Orders.CALL, 50)));
        Check.dueAll("20 the ring of the address is the place's", b.place(), 4, 9, 1);
        b.does(3, Orders.byLink(Orders.TRY_READ, 0), Orders.indirect(Orders.own(Orders.CALL, 51)));
        Check.dueAll("20 8 ahead of 9", b.fault(), 8, 7, 9, 1);
        b = withTarget(4, 1, 2, 6);
        b.put(50, Orders.pointerWord(6, 9, 1));
        b.does(3, Orders.byLink(Orders.TRY_READ, 0), Orders.indirect(Orders.own(Orders.CALL, 50)));
        Check.dueAll("20 by a greater ring, inwards", b.place(), 2, 9, 1);
        Check.dueAll("20 P7 has the ring that was", b.pointer(7), 3, 8, 2);
    }

    private static void callOwnSegment() {
        Bench b = new Bench().brackets(2, 4, 6, 1);
        b.does(3, Orders.own(Orders.CALL, 40));
        Check.dueAll("20 in its own segment no gate is asked for", b.place(), 3, 8, 40);
        Check.dueAll("20 own segment, P7", b.pointer(7), 3, 8, 1);
        b.put(50, Orders.pointerWord(5, 8, 40));
        b.does(4, Orders.indirect(Orders.own(Orders.CALL, 50)));
        Check.dueAll("20 own segment, e above R2", b.place(), 4, 8, 40);
        b.does(3, Orders.indirect(Orders.own(Orders.CALL, 50)));
        Check.dueAll("20 own segment, outwards", b.fault(), 9, 5, 8, 40);
        b.put(50, Orders.pointerWord(7, 8, 40));
        b.does(3, Orders.indirect(Orders.own(Orders.CALL, 50)));
        Check.dueAll("20 own segment, above R3", b.fault(), 8, 7, 8, 40);
    }

    private static void returnOutwards() {
        Bench b = new Bench().put(50, Orders.again(Orders.pointerWord(5, 8, 30)), Orders.pointerWord(7, 8, 20));
        b.does(3, Orders.of(6, Orders.indirect(Orders.own(Orders.POINT, 51))), Orders.own(Orders.RETURN, 50));
        Check.dueAll("21 the place", b.place(), 5, 8, 30);
        Check.dueAll("21 a lower pointer", b.pointer(0), 5, 0, 0);
        Check.dueAll("21 the last pointer", b.pointer(7), 5, 0, 0);
        Check.dueAll("21 a higher pointer", b.pointer(6), 7, 8, 20);
        Check.due("21 returns", b.is(Bench.RETURNS), 1);
        Check.due("21 calls", b.is(Bench.CALLS), 0);
        b.does(5, Orders.own(Orders.RETURN, 50));
        Check.dueAll("21 in the same ring", b.place(), 5, 8, 30);
    }

    private static void returnRefused() {
        Bench b = new Bench().brackets(1, 5, 6, 0);
        b.put(50, Orders.pointerWord(2, 8, 30), Orders.pointerWord(6, 8, 30), Orders.pointerWord(4, 8, 100),
            Orders.pointerWord(7, 99, 30), Orders.pointerWord(4, 4, 3), Orders.pointerWord(2, 99, 30));
        int[][] due = {{10, 3, 8, 50}, {5, 6, 8, 30}, {2, 4, 8, 100}, {1, 7, 99, 30}, {5, 4, 4, 3}, {10, 3, 8, 55}};
        for (int i = 0; i < due.length; i++) {
            b.does(3, Orders.own(Orders.RETURN, 50 + i));
            Check.dueAll("21 refused " + i, b.fault(), due[i]);
            Check.dueAll("21 refused " + i + ", the place stays", b.place(), 3, 8, 0);
            Check.dueAll("21 refused " + i + ", pointers stay", b.pointer(0), 3, 0, 0);
            Check.due("21 no return was done", b.is(Bench.RETURNS), 0);
        }
        b.does(3, Orders.own(Orders.RETURN, 100));
        Check.dueAll("21 no word to read", b.fault(), 2, 3, 8, 100);
        b.x.flags(0, 0, 6);
        b.does(3, Orders.own(Orders.RETURN, 50));
        Check.dueAll("21 may not read", b.fault(), 3, 3, 8, 50);
    }
}
