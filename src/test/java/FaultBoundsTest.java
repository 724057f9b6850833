/**
 * The boundaries of part 3 of the terms, RESUME and the FAULT: a method for each sentence that names one, with the
 * sentence above it.
 */
public final class FaultBoundsTest {
    private static final int MIN = Integer.MIN_VALUE;
    private static final int MAX = Integer.MAX_VALUE;
    private static final int NO_ORDER = Orders.own(31, 0);

    public static void main(String[] args) {
        resumeInRing0();
        resumeNothingSaved();
        resumeBringsBack();
        resumeNothingSavedAnyMore();
        resumeFurther();
        resumeFurtherThanTheLastWord();
        allIsAsAhead();
        linksStayLinked();
        segmentsStayKnown();
        addressOf13And14();
        addressOfAFetch();
        addressOf12();
        addressOfAPointerWord();
        addressOf11();
        addressOfAReturn();
        addressElse();
        withoutAHandler();
        withAHandler();
        handlerRunsInRing0();
        lowest16Bits();
        somethingSavedIsDead();
        deadByTheHandlersFetch();
        latestFault();
        Check.finish();
    }

    private static int loadX(int r, int operand) {
        return Orders.of(r, Orders.immediate(Orders.LOAD_X, operand));
    }

    private static int point(int r, int order) {
        return Orders.of(r, Orders.POINT << 27 | order & (1 << 27) - 1);
    }

    /** A program in ring 3 with a handler at word 60 of the same segment. */
    private static Bench handled(int... program) {
        Bench b = new Bench().put(0, program).start(3);
        b.x.handler(0, 0, 60);
        return b;
    }

    // "25 RESUME, in ring 0 (else 14)"
    private static void resumeInRing0() {
        for (int ring = 1; ring < 8; ring++) {
            Bench b = new Bench();
            b.does(ring, Orders.own(Orders.RESUME, 0));
            Check.dueAll("ring " + ring + ", 14 ahead of 13", b.fault(), 14, ring, 8, 0);
        }
        Bench b = handled(NO_ORDER).put(60, Orders.own(Orders.RETURN, 50)).put(50, Orders.pointerWord(1, 8, 61));
        b.put(61, Orders.own(Orders.RESUME, 0)).run(3);
        Check.dueAll("ring 1, though something is saved", b.fault(), 14, 1, 8, 61);
        Check.due("it stays saved", b.is(Bench.SAVED), 1);
    }

    // "(nothing saved: 13)"
    private static void resumeNothingSaved() {
        Bench b = new Bench();
        b.does(0, loadX(1, 1), Orders.own(Orders.RESUME, 0));
        Check.dueAll("nothing saved", b.fault(), 13, 0, 8, 1);
        Check.dueAll("the place stays", b.place(), 0, 8, 1);
        b.start(0);
        b.x.handler(0, 0, 60);
        b.put(60, Orders.own(Orders.RESUME, 0)).run(2);
        Check.due("taken by a handler, it is saved", b.is(Bench.SAVED), 1);
        Check.dueAll("which can resume, X1 being 1", b.run(1).place(), 0, 8, 2);
        Check.due("and nothing is saved", b.is(Bench.SAVED), 0);
    }

    // "what was saved comes back": "place, A, X1 to X3, CONDITION, POINTERS"
    private static void resumeBringsBack() {
        Bench b = new Bench();
        int[] ahead = {loadX(1, 1), loadX(2, 2), loadX(3, 3), Orders.immediate(Orders.LOAD, 4),
            Orders.immediate(Orders.COMPARE, 5)};
        b.put(0, ahead).start(3);
        b.x.handler(0, 0, 60);
        for (int n = 0; n < 8; n++) {
            b.put(5 + n, point(n, Orders.own(0, 20 + n)));
            b.put(65 + n, point(n, Orders.own(0, 30 + n)));
        }
        b.put(13, NO_ORDER);
        b.put(60, loadX(1, 0), loadX(2, 8), loadX(3, 9), Orders.immediate(Orders.LOAD, 10),
            Orders.immediate(Orders.COMPARE, 1)).put(73, Orders.own(Orders.RESUME, 0));
        b.run(13 + 1 + 13);
        Check.dueAll("the handler's own", b.registers(), 10, 0, 8, 9, 1);
        for (int n = 0; n < 8; n++) {
            Check.dueAll("the handler's P" + n, b.pointer(n), 0, 8, 30 + n);
        }
        b.run(1);
        Check.dueAll("the place", b.place(), 3, 8, 13);
        Check.dueAll("A, X1 to X3, CONDITION", b.registers(), 4, 1, 2, 3, -1);
        for (int n = 0; n < 8; n++) {
            Check.dueAll("P" + n, b.pointer(n), 3, 8, 20 + n);
        }
        Check.due("RUNNING", b.is(Bench.STATUS), Bench.RUNNING);
    }

    // "and nothing is saved any more"
    private static void resumeNothingSavedAnyMore() {
        Bench b = handled(NO_ORDER, Orders.own(Orders.RESUME, 0)).put(60, loadX(1, 1), Orders.own(Orders.RESUME, 0));
        Check.due("saved", b.run(1).is(Bench.SAVED), 1);
        Check.due("still saved", b.run(1).is(Bench.SAVED), 1);
        Check.due("not any more", b.run(1).is(Bench.SAVED), 0);
        b.put(1, NO_ORDER).run(1);
        Check.due("the next fault is taken", b.is(Bench.STATUS), Bench.RUNNING);
        Check.due("and saved", b.is(Bench.SAVED), 1);
        Check.dueAll("resumed again", b.run(2).place(), 3, 8, 2);
    }

    // "the place is one word further than the saved one if X1, as it was ahead of this, isn't 0"
    private static void resumeFurther() {
        for (int x1 : new int[] {MIN, -1, 0, 1, 65536, MAX}) {
            for (int saved : new int[] {0, 7}) {
                Bench b = handled(loadX(1, saved), NO_ORDER).put(50, x1);
                b.put(60, Orders.of(1, Orders.own(Orders.LOAD_X, 50)), Orders.own(Orders.RESUME, 0)).run(4);
                Check.dueAll("X1 " + x1 + ", saved " + saved, b.place(), 3, 8, x1 == 0 ? 1 : 2);
                Check.due("the saved X1", b.is(Bench.X1), saved);
            }
        }
        for (int r = 2; r <= 3; r++) {
            Bench b = handled(NO_ORDER).put(60, loadX(r, 1), Orders.own(Orders.RESUME, 0)).run(3);
            Check.dueAll("X" + r + " counts for nothing", b.place(), 3, 8, 0);
        }
        Bench b = handled(loadX(1, 1), NO_ORDER).put(60, Orders.own(Orders.RESUME, 0)).run(3);
        Check.dueAll("X1 that the handler left", b.place(), 3, 8, 2);
    }

    // "one word further than the saved one": also behind the last word, and behind 65535
    private static void resumeFurtherThanTheLastWord() {
        for (int word : new int[] {99, 100, 65534, 65535}) {
            Bench b = new Bench().put(99, NO_ORDER).put(60, loadX(1, 1), Orders.own(Orders.RESUME, 0));
            b.x.start(0, 0, word, 3);
            b.x.handler(0, 0, 60);
            Check.dueAll("from word " + word, b.run(3).place(), 3, 8, word + 1);
            Check.dueAll("its fetch", b.run(1).fault(), 2, 3, 8, word + 1);
            Check.dueAll("its P1", b.pointer(1), 3, 8, word + 1 & 65535);
        }
    }

    // "A FAULT ends the STEP: all is as ahead of it"
    private static void allIsAsAhead() {
        int[] faulting = {NO_ORDER, Orders.own(Orders.LOAD, 100), Orders.own(Orders.ADD, -1),
            Orders.own(Orders.STORE, 50), Orders.own(Orders.COMPARE, 100), Orders.own(Orders.GO, 100),
            Orders.own(Orders.GO_UNLIKE, 100), Orders.of(2, Orders.own(Orders.LOAD_X, 100)),
            Orders.of(2, Orders.own(Orders.STORE_X, 50)), point(3, Orders.own(0, -1)),
            Orders.of(3, Orders.own(Orders.KEEP, 50)), Orders.own(Orders.CALL, 100), Orders.own(Orders.RETURN, 50),
            Orders.own(Orders.RETURN, 51), Orders.indirect(Orders.own(Orders.TRY_READ, 100)), Orders.own(Orders.SAY, 0),
            Orders.own(Orders.RESUME, 0), Orders.byLink(Orders.LOAD, 0), Orders.indirect(Orders.own(Orders.CALL, 52)),
            Orders.indirect(Orders.own(Orders.LOAD, 53))};
        for (int order : faulting) {
            Bench b = new Bench().brackets(2, 4, 6, 0);
            b.put(50, Orders.pointerWord(1, 8, 3), Orders.pointerWord(7, 8, 3), Orders.pointerWord(5, 8, 3),
                Orders.again(Orders.pointerWord(3, 8, 53)));
            b.put(0, Orders.immediate(Orders.LOAD, 4), loadX(1, 1), loadX(2, 2), loadX(3, 3),
                Orders.immediate(Orders.COMPARE, 5), point(3, Orders.own(0, 33)), point(7, Orders.own(0, 37)), order);
            b.start(3).run(7);
            int[] due = b.everything();
            b.run(1);
            due[Bench.STATUS] = Bench.FAULTED;
            for (int what : new int[] {Bench.KIND, Bench.FAULT_RING, Bench.FAULT_NUMBER, Bench.FAULT_WORD}) {
                due[what] = b.is(what);
            }
            due[Bench.STEPS] = 8;
            due[Bench.FAULTS] = 1;
            Check.dueAll("op " + (order >>> 27), b.everything(), due);
            Check.due("nothing is written", b.x.stored(0, 50), Orders.pointerWord(1, 8, 3));
            Check.due("nothing is said", b.x.sayings(), 0);
        }
    }

    /** Segment 1, name 7, without flag 1, defines symbol 1 as its word 4; link 2 of segment 0 names it. */
    private static Bench linked() {
        Bench b = new Bench();
        int s = b.other(7, 4, 0, 7, 7, 0);
        b.x.define(s, 1, 4);
        b.x.link(0, 2, 7, 1);
        return b;
    }

    // "but for LINKS that are linked"
    private static void linksStayLinked() {
        Bench b = linked().put(0, Orders.byLink(Orders.LOAD, 2)).put(60, Orders.own(Orders.RESUME, 0)).start(3);
        b.x.handler(0, 0, 60);
        b.run(2);
        Check.dueAll("a fault behind the linking", b.fault(), 3, 3, 9, 4);
        b.x.link(0, 2, 999, 999);
        b.put(0, point(3, Orders.byLink(0, 2))).run(1);
        Check.dueAll("it is linked", b.pointer(3), 3, 9, 4);
    }

    // "and segments that are KNOWN"
    private static void segmentsStayKnown() {
        Bench b = linked();
        b.does(3, Orders.byLink(Orders.LOAD, 2));
        Check.due("FAULTED", b.is(Bench.STATUS), Bench.FAULTED);
        Check.due("known", b.is(Bench.KNOWS), 10);
        Check.due("as 9", b.x.known(0, 9), 1);
        b.does(3, Orders.indirect(Orders.byLink(Orders.LOAD, 2)));
        Check.dueAll("also behind a pointer word", b.fault(), 3, 3, 9, 4);
        Check.due("known too", b.is(Bench.KNOWS), 10);
    }

    // "It has a kind and an ADDRESS: of 13, 14 and a fetch the place"
    private static void addressOf13And14() {
        int[] orders13 = {NO_ORDER, Orders.indirect(Orders.own(26, 7)), Orders.immediate(Orders.STORE, 7),
            Orders.of(4, Orders.own(Orders.LOAD_X, 7)), Orders.indirect(Orders.immediate(Orders.LOAD, 7)),
            Orders.byPointer(30, 2, 7)};
        for (int order : orders13) {
            Bench b = new Bench().put(99, order);
            b.x.start(0, 0, 99, 5);
            Check.dueAll("13", b.run(1).fault(), 13, 5, 8, 99);
        }
        for (int op : new int[] {Orders.SAY, Orders.RESUME}) {
            Bench b = new Bench().put(99, Orders.byPointer(op, 2, 7));
            b.x.start(0, 0, 99, 5);
            Check.dueAll("14", b.run(1).fault(), 14, 5, 8, 99);
        }
        Bench b = new Bench().put(99, Orders.byPointer(Orders.RESUME, 2, 7));
        b.x.start(0, 0, 99, 0);
        Check.dueAll("13 of RESUME", b.run(1).fault(), 13, 0, 8, 99);
    }

    // "and a fetch the place"
    private static void addressOfAFetch() {
        Bench b = new Bench().brackets(2, 4, 6, 0);
        b.x.start(0, 0, 50, 7);
        Check.dueAll("5", b.run(1).fault(), 5, 7, 8, 50);
        b.x.start(0, 0, 50, 1);
        Check.dueAll("5 below", b.run(1).fault(), 5, 1, 8, 50);
        b.x.start(0, 0, 65535, 3);
        Check.dueAll("2", b.run(1).fault(), 2, 3, 8, 65535);
    }

    // "of 12 the place's ring and number, and OFFSET"
    private static void addressOf12() {
        for (int offset : new int[] {-32768, -1, 0, 2, 15, 16, 32767}) {
            Bench b = new Bench();
            b.does(6, loadX(1, 3), Orders.indexed(Orders.indirect(Orders.byLink(Orders.LOAD, offset)), 1));
            Check.dueAll("OFFSET " + offset, b.fault(), 12, 6, 8, offset);
        }
        Bench b = linked();
        b.x.flags(1, 0, 5);
        b.x.brackets(1, 0, 7, 7, 20);
        b.x.word(1, 4, Orders.byLink(Orders.LOAD, 6));
        b.does(6, Orders.byLink(Orders.CALL, 2), 0);
        Check.dueAll("of another segment", b.fault(), 12, 6, 9, 6);
    }

    // "of a POINTER WORD on the way that can't be read .. that one's"
    private static void addressOfAPointerWord() {
        Bench b = new Bench().brackets(0, 5, 7, 0);
        b.put(50, Orders.again(Orders.pointerWord(4, 8, 51)), Orders.again(Orders.pointerWord(0, 4095, 65535)),
            Orders.again(Orders.pointerWord(0, 8, 65535)), Orders.again(Orders.pointerWord(6, 8, 54)));
        b.does(3, Orders.indirect(Orders.own(Orders.LOAD, 100)));
        Check.dueAll("the first, 2", b.fault(), 2, 3, 8, 100);
        b.does(3, Orders.indirect(Orders.own(Orders.LOAD, 50)));
        Check.dueAll("the third, 1", b.fault(), 1, 4, 4095, 65535);
        b.does(3, Orders.indirect(Orders.own(Orders.LOAD, 52)));
        Check.dueAll("the second, 2", b.fault(), 2, 3, 8, 65535);
        b.does(3, Orders.indirect(Orders.own(Orders.LOAD, 53)));
        Check.dueAll("the second, 3", b.fault(), 3, 6, 8, 54);
        b.does(3, loadX(1, MAX & 32767), Orders.indexed(Orders.indirect(Orders.own(Orders.LOAD, 1)), 1));
        Check.dueAll("the first, X added", b.fault(), 2, 3, 8, 32768);
    }

    // "(also of 11) that one's"
    private static void addressOf11() {
        Bench b = new Bench();
        for (int i = 0; i < 8; i++) {
            b.put(50 + i, Orders.again(Orders.pointerWord(i < 7 ? 2 : 6, 8, 51 + i)));
        }
        b.does(3, Orders.indirect(Orders.own(Orders.LOAD, 50)));
        Check.dueAll("the ninth", b.fault(), 11, 6, 8, 58);
    }

    // "of a RETURN's 1, 2, 5 behind the reading the place that it would go to"
    private static void addressOfAReturn() {
        Bench b = new Bench().brackets(0, 5, 7, 0);
        b.put(50, Orders.pointerWord(6, 4095, 65535), Orders.pointerWord(6, 8, 100), Orders.pointerWord(6, 8, 99),
            Orders.pointerWord(2, 4095, 65535));
        b.does(3, Orders.own(Orders.RETURN, 50));
        Check.dueAll("1", b.fault(), 1, 6, 4095, 65535);
        b.does(3, Orders.own(Orders.RETURN, 51));
        Check.dueAll("2", b.fault(), 2, 6, 8, 100);
        b.does(3, Orders.own(Orders.RETURN, 52));
        Check.dueAll("5", b.fault(), 5, 6, 8, 99);
        b.does(3, Orders.own(Orders.RETURN, 53));
        Check.dueAll("10: the ADDRESS", b.fault(), 10, 3, 8, 53);
        b.does(3, Orders.own(Orders.RETURN, -5));
        Check.dueAll("2 of the reading: the ADDRESS", b.fault(), 2, 3, 8, -5);
    }

    // "else the ADDRESS"
    private static void addressElse() {
        Bench b = new Bench().brackets(0, 5, 7, 0).put(50, Orders.pointerWord(6, 8, 30), Orders.pointerWord(5, 8, 30));
        b.does(3, Orders.indirect(Orders.own(Orders.STORE, 50)));
        Check.dueAll("4", b.fault(), 4, 6, 8, 30);
        b.does(3, Orders.indirect(Orders.own(Orders.GO, 51)));
        Check.dueAll("9", b.fault(), 9, 5, 8, 30);
        b.does(3, Orders.indirect(Orders.own(Orders.CALL, 51)));
        Check.dueAll("9 of a CALL", b.fault(), 9, 5, 8, 30);
        b.put(52, MIN);
        b.does(3, Orders.of(1, Orders.own(Orders.LOAD_X, 52)), Orders.indexed(Orders.own(Orders.LOAD, 5), 1));
        Check.dueAll("its whole word", b.fault(), 2, 3, 8, MIN + 5);
        b.does(3, Orders.of(1, Orders.own(Orders.LOAD_X, 52)), point(2, Orders.indexed(Orders.own(0, 5), 1)));
        Check.dueAll("its whole word, of POINT", b.fault(), 2, 3, 8, MIN + 5);
    }

    // "Without a handler the PROCESS is FAULTED"
    private static void withoutAHandler() {
        for (int p = 0; p < 4; p++) {
            Bench b = new Bench(p);
            b.does(3, Orders.immediate(Orders.LOAD, 9), NO_ORDER);
            Check.due("FAULTED", b.is(Bench.STATUS), Bench.FAULTED);
            Check.dueAll("the place stays", b.place(), 3, 8, 1);
            Check.due("A stays", b.is(Bench.A), 9);
            Check.dueAll("P1 stays", b.pointer(1), 3, 0, 0);
            Check.due("nothing saved", b.is(Bench.SAVED), 0);
            b.x.handler(p, 0, 60);
            Check.due("a handler comes too late", b.x.run(p, 1), 0);
        }
    }

    // "with one, if nothing is saved: .. are saved, the place is (0, the handler's number and word), A the kind, P1 the
    // ADDRESS"
    private static void withAHandler() {
        for (int p = 0; p < 4; p++) {
            Bench b = new Bench(p);
            int s = b.other(7, 7, 0, 0, 0, 0);
            b.put(0, Orders.immediate(Orders.LOAD, 9), loadX(1, 1), loadX(2, 2), loadX(3, 3),
                Orders.immediate(Orders.COMPARE, 10));
            for (int n = 0; n < 8; n++) {
                b.put(5 + n, point(n, Orders.own(0, 20 + n)));
            }
            b.put(13, Orders.own(Orders.LOAD, 100)).start(3);
            b.x.handler(p, s, 19);
            b.run(14);
            Check.due("RUNNING", b.is(Bench.STATUS), Bench.RUNNING);
            Check.dueAll("the place", b.place(), 0, 9, 19);
            Check.dueAll("A the kind, the rest stays", b.registers(), 2, 1, 2, 3, -1);
            for (int n = 0; n < 8; n++) {
                int[] stays = {3, 8, 20 + n};
                int[] address = {3, 8, 100};
                Check.dueAll("P" + n, b.pointer(n), n == 1 ? address : stays);
            }
            Check.due("saved", b.is(Bench.SAVED), 1);
        }
    }

    // "the place is (0, the handler's number and word)": ring 0, which must execute there
    private static void handlerRunsInRing0() {
        Bench b = handled(NO_ORDER).put(60, Orders.own(Orders.SAY, 0)).run(2);
        Check.due("it may SAY", b.x.said(0), 13);
        b = new Bench().brackets(1, 7, 7, 0).put(0, NO_ORDER).start(3);
        b.x.handler(0, 0, 60);
        b.run(2);
        Check.dueAll("R1 above 0", b.fault(), 5, 0, 8, 60);
        Check.due("R1 above 0: DEAD", b.is(Bench.STATUS), Bench.DEAD);
    }

    // "P1 the ADDRESS (its word's lowest 16 bits)"
    private static void lowest16Bits() {
        for (int word : new int[] {MIN, MIN + 1, -65537, -65536, -1, 100, 65535, 65536, 65537, MAX}) {
            int load = Orders.indexed(Orders.own(Orders.LOAD, 0), 1);
            Bench b = handled(Orders.of(1, Orders.own(Orders.LOAD_X, 50)), load).put(50, word).run(2);
            Check.dueAll("the whole of " + word, b.fault(), 2, 3, 8, word);
            Check.dueAll("the lowest bits of " + word, b.pointer(1), 3, 8, word & 65535);
        }
        Bench b = handled(Orders.byLink(Orders.LOAD, -1)).run(1);
        Check.dueAll("of 12 too", b.pointer(1), 3, 8, 65535);
    }

    // "if something is saved, it is DEAD"
    private static void somethingSavedIsDead() {
        Bench b = handled(Orders.immediate(Orders.LOAD, 9), NO_ORDER);
        b.put(60, loadX(2, 5), Orders.own(Orders.LOAD, 100)).run(3);
        int[] due = b.everything();
        b.run(1);
        due[Bench.STATUS] = Bench.DEAD;
        due[Bench.KIND] = 2;
        due[Bench.FAULT_RING] = 0;
        due[Bench.FAULT_NUMBER] = 8;
        due[Bench.FAULT_WORD] = 100;
        due[Bench.STEPS] = 4;
        due[Bench.FAULTS] = 2;
        Check.dueAll("DEAD, all else as ahead", b.everything(), due);
        Check.due("no step more", b.x.run(0, 5), 0);
    }

    // "if something is saved, it is DEAD": also by a fetch at the handler's word, which needs not be there
    private static void deadByTheHandlersFetch() {
        for (int word : new int[] {100, 65535}) {
            Bench b = new Bench().put(0, NO_ORDER).start(3);
            Check.due("the handler", b.x.handler(0, 0, word), 8);
            Check.due("two steps", b.x.run(0, 500), 2);
            Check.due("DEAD", b.is(Bench.STATUS), Bench.DEAD);
            Check.dueAll("its fetch", b.fault(), 2, 0, 8, word);
            Check.dueAll("its place", b.place(), 0, 8, word);
        }
    }

    // "the latest fault's kind (0 none)", "its ADDRESS's ring, number, word", "faults"
    private static void latestFault() {
        Bench b = handled(Orders.own(Orders.LOAD, 100), Orders.byLink(Orders.LOAD, 7), NO_ORDER);
        b.put(60, loadX(1, 1), Orders.own(Orders.RESUME, 0));
        Check.dueAll("none", b.fault(), 0, 0, 0, 0);
        Check.dueAll("the first", b.run(1).fault(), 2, 3, 8, 100);
        Check.dueAll("it stays behind RESUME", b.run(2).fault(), 2, 3, 8, 100);
        Check.dueAll("the second", b.run(1).fault(), 12, 3, 8, 7);
        Check.dueAll("the third", b.run(3).fault(), 13, 3, 8, 2);
        Check.due("all of them", b.is(Bench.FAULTS), 3);
    }
}
