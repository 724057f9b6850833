/** Promise 10 (part 2 of the terms): the fetch, the modes, pointer words, and the ring of an address. */
public final class AddressTest {
    public static void main(String[] args) {
        fetch();
        modes();
        ringOfPointer();
        orderOfFaults();
        pointerWords();
        ringOfPointerWords();
        chains();
        Check.finish();
    }

    private static void fetch() {
        Bench b = new Bench().brackets(3, 5, 7, 100);
        for (int ring = 0; ring < 8; ring++) {
            b.start(ring).run(1);
            boolean runs = ring >= 3 && ring <= 5;
            Check.due("fetch in ring " + ring, b.is(Bench.STATUS), runs ? Bench.HALTED : Bench.FAULTED);
            if (!runs) {
                Check.dueAll("fetch in ring " + ring, b.fault(), 5, ring, 8, 0);
            }
        }
        b.x.start(0, 0, 100, 6);
        b.run(1);
        Check.dueAll("fetch outside, 2 ahead of 5", b.fault(), 2, 6, 8, 100);
        b.put(99, Orders.immediate(Orders.LOAD, 1));
        b.x.start(0, 0, 99, 4);
        b.run(2);
        Check.dueAll("fetch behind the last word", b.fault(), 2, 4, 8, 100);
        Check.due("the last word was done", b.is(Bench.A), 1);
        b.x.flags(0, 0, 3);
        b.start(4).run(1);
        Check.dueAll("fetch without flag 4", b.fault(), 5, 4, 8, 0);
    }

    private static void modes() {
        Bench b = new Bench().put(50, 111, 222, 333);
        b.does(3, Orders.of(2, Orders.immediate(Orders.LOAD_X, 2)), Orders.indexed(Orders.own(Orders.LOAD, 50), 2));
        Check.due("mode 0 and X2", b.is(Bench.A), 333);
        b.does(3, Orders.of(3, Orders.immediate(Orders.LOAD_X, -1)), Orders.indexed(Orders.own(Orders.LOAD, 52), 3));
        Check.due("mode 0 and X3 below 0", b.is(Bench.A), 222);
        b.does(3, Orders.of(6, Orders.own(Orders.POINT, 60)), Orders.of(1, Orders.immediate(Orders.LOAD_X, 1)),
            Orders.indexed(Orders.byPointer(Orders.LOAD, 6, -10), 1));
        Check.due("mode 1, P6 and X1", b.is(Bench.A), 222);
        b.does(3, Orders.of(1, Orders.immediate(Orders.LOAD_X, 100)),
            Orders.indexed(Orders.immediate(Orders.LOAD, -32768), 1));
        Check.due("mode 3 and X1", b.is(Bench.A), -32668);
        b.put(50, Integer.MAX_VALUE);
        b.does(3, Orders.of(1, Orders.own(Orders.LOAD_X, 50)), Orders.indexed(Orders.immediate(Orders.LOAD, 1), 1));
        Check.due("mode 3 wraps", b.is(Bench.A), Integer.MIN_VALUE);
        b.does(3, Orders.of(1, Orders.own(Orders.LOAD_X, 50)), Orders.indexed(Orders.own(Orders.LOAD, 1), 1));
        Check.dueAll("mode 0 wraps", b.fault(), 2, 3, 8, Integer.MIN_VALUE);
    }

    private static void ringOfPointer() {
        Bench b = new Bench().put(50, Orders.pointerWord(6, 8, 20), Orders.pointerWord(1, 8, 20));
        b.does(3, Orders.of(1, Orders.indirect(Orders.own(Orders.POINT, 50))),
            Orders.of(2, Orders.byPointer(Orders.POINT, 1, 5)));
        Check.dueAll("mode 1 in the pointer's ring", b.pointer(2), 6, 8, 25);
        b.does(3, Orders.of(1, Orders.indirect(Orders.own(Orders.POINT, 51))));
        Check.dueAll("a pointer word's ring is raised to the place's", b.pointer(1), 3, 8, 20);
    }

    private static void orderOfFaults() {
        Bench b = new Bench().brackets(0, 4, 7, 0);
        b.put(50, Orders.pointerWord(7, 9, 300), Orders.pointerWord(7, 8, 100), Orders.pointerWord(7, 8, 99),
            Orders.pointerWord(0, 8, 99), Orders.pointerWord(0, 7, 63), Orders.pointerWord(0, 7, 64));
        int[][] due = {{1, 7, 9, 300}, {2, 7, 8, 100}, {3, 7, 8, 99}, {0, 0, 0, 0}, {0, 0, 0, 0}, {2, 4, 7, 64}};
        for (int i = 0; i < due.length; i++) {
            b.does(4, Orders.indirect(Orders.own(Orders.LOAD, 50 + i)));
            Check.dueAll("read, case " + i, b.fault(), due[i]);
        }
        due[2][0] = 4;
        due[3] = new int[] {4, 4, 8, 99};
        for (int i = 0; i < due.length; i++) {
            b.does(4, Orders.indirect(Orders.own(Orders.STORE, 50 + i)));
            Check.dueAll("write, case " + i, b.fault(), due[i]);
        }
    }

    private static void pointerWords() {
        Bench b = new Bench().put(50, Orders.pointerWord(0, 8, 60));
        b.put(51, Orders.again(Orders.pointerWord(0, 8, 50)));
        b.put(60, 4711);
        b.does(3, Orders.indirect(Orders.own(Orders.LOAD, 50)));
        Check.due("I", b.is(Bench.A), 4711);
        b.does(3, Orders.indirect(Orders.own(Orders.LOAD, 51)));
        Check.due("I, again", b.is(Bench.A), 4711);
        b.does(3, Orders.of(1, Orders.immediate(Orders.LOAD_X, -10)),
            Orders.indexed(Orders.indirect(Orders.own(Orders.LOAD, 60)), 1));
        Check.due("X is added ahead of I, once", b.is(Bench.A), 4711);
        b.does(3, Orders.indirect(Orders.own(Orders.LOAD, -1)));
        Check.dueAll("I, outside", b.fault(), 2, 3, 8, -1);
        b.does(3, Orders.of(1, Orders.indirect(Orders.own(Orders.WORD_X, 100))));
        Check.dueAll("I is read also where the address is not used", b.fault(), 2, 3, 8, 100);
        b.put(51, Orders.again(Orders.pointerWord(5, 77, 60)));
        b.does(3, Orders.indirect(Orders.own(Orders.LOAD, 51)));
        Check.dueAll("I, the second is not known", b.fault(), 1, 5, 77, 60);
        b.x.flags(0, 0, 4);
        b.does(3, Orders.indirect(Orders.own(Orders.LOAD, 51)));
        Check.dueAll("I, may not be read", b.fault(), 3, 3, 8, 51);
    }

    private static void ringOfPointerWords() {
        Bench b = new Bench();
        int s = b.other(7, 1, 5, 6, 7, 0);
        b.x.define(s, 1, 0);
        b.x.link(0, 0, 7, 1);
        b.x.word(s, 0, Orders.pointerWord(2, 8, 40));
        b.x.word(s, 1, Orders.again(Orders.pointerWord(6, 8, 41)));
        b.put(41, Orders.pointerWord(0, 8, 42));
        b.does(3, Orders.of(1, Orders.indirect(Orders.byLink(Orders.POINT, 0))));
        Check.dueAll("e is R1 of where it was read", b.pointer(1), 5, 8, 40);
        b.does(6, Orders.of(1, Orders.indirect(Orders.byLink(Orders.POINT, 0))));
        Check.dueAll("e is the place's ring", b.pointer(1), 6, 8, 40);
        b.x.word(s, 0, Orders.pointerWord(7, 8, 40));
        b.does(3, Orders.of(1, Orders.indirect(Orders.byLink(Orders.POINT, 0))));
        Check.dueAll("e is the pointer word's ring", b.pointer(1), 7, 8, 40);
        b.does(3, Orders.of(2, Orders.immediate(Orders.LOAD_X, 1)),
            Orders.of(1, Orders.indexed(Orders.indirect(Orders.byLink(Orders.POINT, 0)), 2)));
        Check.dueAll("e stays the greatest one on the way", b.pointer(1), 6, 8, 42);
        b.put(60, Orders.pointerWord(0, 5, 3));
        b.does(3, Orders.indirect(Orders.own(Orders.TRY_WRITE, 60)),
            Orders.of(1, Orders.indirect(Orders.own(Orders.POINT, 60))),
            Orders.of(2, Orders.indirect(Orders.byPointer(Orders.POINT, 1, 0))));
        Check.dueAll("R1 of a stack", b.pointer(2), 5, 0, 0);
    }

    private static void chains() {
        Bench b = new Bench();
        for (int k = 50; k < 60; k++) {
            b.put(k, Orders.again(Orders.pointerWord(k - 50 < 6 ? 0 : 4, 8, k + 1)));
        }
        b.put(58, Orders.pointerWord(0, 8, 59));
        b.does(3, Orders.of(1, Orders.indirect(Orders.own(Orders.POINT, 51))));
        Check.dueAll("eight are read", b.pointer(1), 4, 8, 59);
        b.does(3, Orders.of(1, Orders.indirect(Orders.own(Orders.POINT, 50))));
        Check.dueAll("the ninth is not", b.fault(), 11, 4, 8, 58);
        b.put(57, Orders.again(Orders.pointerWord(4, 99, 3)));
        b.does(3, Orders.of(1, Orders.indirect(Orders.own(Orders.POINT, 50))));
        Check.dueAll("the ninth is not asked for", b.fault(), 11, 4, 99, 3);
        b.put(50, Orders.again(Orders.pointerWord(0, 8, 50)));
        b.does(3, Orders.indirect(Orders.own(Orders.LOAD, 50)));
        Check.dueAll("one that points to itself", b.fault(), 11, 3, 8, 50);
    }
}
