/** Promises 6, 7 and 10 (part 2 of the terms, LINKING): names are linked when they are first used. */
public final class LinkingTest {
    public static void main(String[] args) {
        firstUse();
        refused();
        staysLinked();
        keptByFault();
        eachProcess();
        everyLink();
        Check.finish();
    }

    /** Segment 1, name 7, defines symbol 1 as its word 4, which holds 44; link 2 of segment 0 names it. */
    private static Bench linked(int flags) {
        Bench b = new Bench();
        int s = b.other(7, flags, 0, 7, 7, 0);
        b.x.define(s, 1, 4);
        b.x.word(s, 4, 44);
        b.x.word(s, 6, 66);
        b.x.link(0, 2, 7, 1);
        return b;
    }

    private static void firstUse() {
        Bench b = linked(1);
        b.does(3, Orders.byLink(Orders.LOAD, 2), Orders.byLink(Orders.LOAD, 2));
        Check.due("a linked word", b.is(Bench.A), 44);
        Check.due("the segment is known, once", b.is(Bench.KNOWS), 10);
        Check.due("as the next number", b.x.known(0, 9), 1);
        b.does(3, Orders.of(1, Orders.immediate(Orders.LOAD_X, 2)), Orders.indexed(Orders.byLink(Orders.LOAD, 2), 1));
        Check.due("X is added to the word", b.is(Bench.A), 66);
        b.does(3, Orders.of(1, Orders.byLink(Orders.POINT, 2)));
        Check.dueAll("in the place's ring", b.pointer(1), 3, 9, 4);
        b.x.define(0, 5, 30);
        b.x.link(0, 3, 100, 5);
        b.does(3, Orders.of(1, Orders.byLink(Orders.POINT, 3)));
        Check.dueAll("a segment's own name", b.pointer(1), 3, 8, 30);
        Check.due("was known", b.is(Bench.KNOWS), 9);
        for (int flags = 1; flags < 8; flags++) {
            b = linked(flags);
            b.does(3, Orders.of(1, Orders.byLink(Orders.POINT, 2)));
            Check.due("some flag: " + flags, b.is(Bench.KIND), 0);
        }
    }

    private static void refused() {
        Bench b = linked(7);
        int[] offsets = {0, 1, 3, 15, 16, -1, -32768, 32767};
        for (int offset : offsets) {
            b.does(3, Orders.byLink(Orders.LOAD, offset));
            Check.dueAll("no link " + offset, b.fault(), 12, 3, 8, offset);
        }
        b.x.link(0, 2, 8, 1);
        b.does(3, Orders.byLink(Orders.LOAD, 2));
        Check.dueAll("no segment of that name", b.fault(), 12, 3, 8, 2);
        b.x.link(0, 2, 7, 2);
        b.does(3, Orders.byLink(Orders.LOAD, 2));
        Check.dueAll("no such definition", b.fault(), 12, 3, 8, 2);
        Check.due("is not known for that", b.is(Bench.KNOWS), 9);
        b = linked(0);
        b.x.flags(1, 1, 7);
        b.does(3, Orders.byLink(Orders.LOAD, 2));
        Check.dueAll("no flag", b.fault(), 12, 3, 8, 2);
        b.does(3, Orders.of(1, Orders.immediate(Orders.LOAD_X, 5)), Orders.indexed(Orders.byLink(Orders.LOAD, 2), 1));
        Check.dueAll("X is not added to the fault", b.fault(), 12, 3, 8, 2);
    }

    private static void staysLinked() {
        Bench b = linked(1);
        b.put(1, Orders.byLink(Orders.LOAD, 2));
        b.does(3, Orders.byLink(Orders.LOAD, 2));
        b.x.link(0, 2, 99, 99);
        b.x.word(1, 4, 45);
        Check.due("linked as then", b.run(1).is(Bench.A), 45);
        b = linked(1);
        b.put(1, Orders.byLink(Orders.LOAD, 2));
        b.does(3, Orders.byLink(Orders.LOAD, 2));
        b.x.flags(1, 0, 0);
        Check.dueAll("linked also without flags", b.run(1).fault(), 3, 3, 9, 4);
    }

    private static void keptByFault() {
        Bench b = linked(4);
        b.does(3, Orders.byLink(Orders.LOAD, 2));
        Check.dueAll("the fault behind the linking", b.fault(), 3, 3, 9, 4);
        Check.due("known in spite of it", b.is(Bench.KNOWS), 10);
        b = linked(4);
        b.put(50, Orders.of(1, Orders.immediate(Orders.LOAD_X, 0)), Orders.own(Orders.RESUME, 0));
        b.put(0, Orders.byLink(Orders.LOAD, 2)).start(0);
        b.x.handler(0, 0, 50);
        b.run(3);
        b.x.link(0, 2, 99, 99);
        b.run(1);
        Check.dueAll("linked in spite of it", b.fault(), 3, 0, 9, 4);
    }

    private static void eachProcess() {
        Bench b = linked(1);
        int s = b.other(8, 1, 0, 7, 7, 0);
        b.x.define(s, 1, 0);
        b.x.word(s, 0, 88);
        b.put(0, Orders.byLink(Orders.LOAD, 2), Orders.byLink(Orders.LOAD, 2));
        b.x.flags(0, 1, 7);
        b.x.flags(s, 1, 7);
        b.start(3).run(1);
        b.x.link(0, 2, 8, 1);
        b.x.start(1, 0, 0, 3);
        b.x.run(1, 1);
        Check.due("another process links for itself", b.x.state(1, Bench.A), 88);
        Check.due("and knows for itself", b.x.known(1, 9), s);
        Check.due("the first one stays linked", b.run(1).is(Bench.A), 44);
        Check.due("the first one knows as before", b.x.known(0, 9), 1);
    }

    /** All segments can be known by one process, and each of them has links of its own. */
    private static void everyLink() {
        Bench b = new Bench();
        for (int i = 1; i < 32; i++) {
            int s = b.x.segment(i, 20);
            b.x.flags(s, 0, 7);
            b.x.brackets(s, 0, 7, 7, 0);
            b.x.define(s, i, 0);
            b.x.link(i - 1, 15, i, i);
            b.x.word(i - 1, 0, Orders.byLink(Orders.GO, 15));
        }
        b.start(5);
        Check.due("32 steps", b.x.run(0, 500), 32);
        Check.dueAll("halted in the last one", b.place(), 5, 39, 0);
        Check.due("knows all", b.is(Bench.KNOWS), 40);
        Check.due("the last number", b.x.known(0, 39), 31);
        Check.due("none behind it", b.x.known(0, 40), RingWarden.NONE);
        Check.due("a handler in one that is known", b.x.handler(0, 31, 0), 39);
    }
}
