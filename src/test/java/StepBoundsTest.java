/**
 * The boundaries of part 2 of the terms: the STEP, the ADDRESS and LINKING. A method for each sentence that names
 * one, with the sentence above it. (That a place's number is not KNOWN can't be brought about: every way to a place
 * asks for it.)
 */
public final class StepBoundsTest {
    private static final int MIN = Integer.MIN_VALUE;
    private static final int MAX = Integer.MAX_VALUE;

    public static void main(String[] args) {
        registersWrap();
        fetchAWordOfIt();
        fetchMayExecute();
        fetchIn2Ahead5();
        offsetHasASign();
        placeOneFurther();
        mode0();
        mode1Word();
        mode1Ring();
        mode1EveryPointer();
        mode2RingAndWord();
        mode3();
        xIsAdded();
        x0AddsNothing();
        xWraps();
        indirectOfMode3();
        pointerWordMustBeRead();
        pointerWordsParts();
        ringIsTheGreatest();
        bit31SoAgain();
        theNinth();
        doneInThisOrder();
        notUsedAsksNothing();
        linkedAsThen();
        linkMustBeThere();
        nameMustBeThere();
        someFlag();
        definitionMustBeThere();
        knownAsTheNextNumber();
        knownAlready();
        refusedLinkIsTriedAgain();
        linksOfEachSegment();
        linksOfEachProcess();
        Check.finish();
    }

    private static int loadX(int r, int operand) {
        return Orders.of(r, Orders.immediate(Orders.LOAD_X, operand));
    }

    private static int point(int r, int order) {
        return Orders.of(r, Orders.POINT << 27 | order & (1 << 27) - 1);
    }

    // "A, X1 to X3 (32 bits, which wrap)"
    private static void registersWrap() {
        Bench b = new Bench().put(50, MAX, MIN, 65537);
        b.does(3, Orders.own(Orders.LOAD, 50), Orders.immediate(Orders.ADD, 1));
        Check.due("ADD above", b.is(Bench.A), MIN);
        b.does(3, Orders.own(Orders.LOAD, 51), Orders.immediate(Orders.ADD, -1));
        Check.due("ADD below", b.is(Bench.A), MAX);
        b.does(3, Orders.own(Orders.LOAD, 51), Orders.immediate(Orders.SUB, 1));
        Check.due("SUB below", b.is(Bench.A), MAX);
        b.does(3, Orders.immediate(Orders.LOAD, 0), Orders.own(Orders.SUB, 51));
        Check.due("SUB of the least", b.is(Bench.A), MIN);
        b.does(3, Orders.own(Orders.LOAD, 52), Orders.own(Orders.MUL, 52));
        Check.due("MUL", b.is(Bench.A), 131073);
        b.does(3, Orders.own(Orders.LOAD, 51), Orders.immediate(Orders.MUL, -1));
        Check.due("MUL of the least", b.is(Bench.A), MIN);
        for (int r = 1; r <= 3; r++) {
            int one = Orders.indexed(Orders.of(r, Orders.immediate(Orders.WORD_X, 1)), r);
            b.does(3, Orders.of(r, Orders.own(Orders.LOAD_X, 50)), one);
            Check.due("X" + r + " above", b.is(Bench.A + r), MIN);
            int less = Orders.indexed(Orders.of(r, Orders.own(Orders.WORD_X, -1)), r);
            b.does(3, Orders.of(r, Orders.own(Orders.LOAD_X, 51)), less);
            Check.due("X" + r + " below", b.is(Bench.A + r), MAX);
        }
    }

    // "the word at its place is fetched (.. a word of it, else 2 ..)"
    private static void fetchAWordOfIt() {
        for (int words : new int[] {1, 2, 100, 256}) {
            Counted x = new Counted();
            x.segment(1, words);
            x.flags(0, 0, 7);
            x.word(0, words - 1, Orders.immediate(Orders.LOAD, 5));
            x.start(0, 0, words - 1, 0);
            x.run(0, 2);
            Check.due(words + " words, the last is done", x.state(0, Bench.A), 5);
            Check.due(words + " words, behind it", x.state(0, Bench.KIND), 2);
            Check.due(words + " words, the fault's word", x.state(0, Bench.FAULT_WORD), words);
            for (int k : new int[] {words, words + 1, 257, 65535}) {
                x.start(0, 0, k, 0);
                x.run(0, 1);
                Check.due("a fetch at " + k, x.state(0, Bench.KIND), 2);
                Check.due("a fetch at " + k + ", ring", x.state(0, Bench.FAULT_RING), 0);
                Check.due("a fetch at " + k + ", number", x.state(0, Bench.FAULT_NUMBER), 8);
                Check.due("a fetch at " + k + ", word", x.state(0, Bench.FAULT_WORD), k);
            }
        }
    }

    // "the ring MAY execute, else 5"
    private static void fetchMayExecute() {
        for (int i = 0; i < 64; i++) {
            int r1 = i / 8;
            int r2 = i % 8;
            if (r1 > r2) {
                continue;
            }
            Bench b = new Bench().brackets(r1, r2, 7, 100);
            for (int ring = 0; ring < 8; ring++) {
                b.start(ring).run(1);
                int due = ring >= r1 && ring <= r2 ? 0 : 5;
                Check.due("ring " + ring + " in " + r1 + " to " + r2, b.is(Bench.KIND), due);
            }
        }
        for (int flags = 0; flags < 8; flags++) {
            Bench b = new Bench();
            b.x.flags(0, 0, flags);
            b.start(3).run(1);
            Check.due("flags " + flags, b.is(Bench.KIND), (flags & 4) != 0 ? 0 : 5);
        }
    }

    // The fetch's faults in the order in which they are told: 2 ahead of 5.
    private static void fetchIn2Ahead5() {
        Bench b = new Bench().brackets(3, 5, 7, 0);
        b.x.start(0, 0, 100, 6);
        Check.dueAll("outside, and may not", b.run(1).fault(), 2, 6, 8, 100);
        b.x.start(0, 0, 99, 6);
        Check.dueAll("may not", b.run(1).fault(), 5, 6, 8, 99);
    }

    // "0 to 15 the OFFSET (with a sign)"
    private static void offsetHasASign() {
        for (int offset : new int[] {-32768, -32767, -1, 0, 1, 255, 256, 32767}) {
            Bench b = new Bench();
            b.does(3, Orders.immediate(Orders.LOAD, offset));
            Check.due("OFFSET " + offset + " of mode 3", b.is(Bench.A), offset);
            b.does(3, Orders.of(1, Orders.own(Orders.WORD_X, offset)));
            Check.due("OFFSET " + offset + " of mode 0", b.is(Bench.X1), offset);
            b.does(3, Orders.of(1, Orders.byPointer(Orders.WORD_X, 2, offset)));
            Check.due("OFFSET " + offset + " of mode 1", b.is(Bench.X1), offset);
        }
    }

    // "Then the place is one word further, if no other is told."
    private static void placeOneFurther() {
        int[] orders = {Orders.immediate(Orders.LOAD, 1), Orders.immediate(Orders.ADD, 1),
            Orders.immediate(Orders.COMPARE, 1), loadX(1, 1), Orders.own(Orders.STORE, 40),
            Orders.of(1, Orders.own(Orders.STORE_X, 40)), Orders.of(1, Orders.own(Orders.WORD_X, 40)),
            Orders.own(Orders.POINT, 40), Orders.own(Orders.KEEP, 40), Orders.own(Orders.TRY_READ, 40),
            Orders.own(Orders.TRY_WRITE, 40), Orders.own(Orders.GO_UNLIKE, 40), Orders.own(Orders.SAY, 40)};
        for (int order : orders) {
            Bench b = new Bench();
            b.does(0, order);
            Check.dueAll("behind op " + (order >>> 27), b.place(), 0, 8, 1);
        }
    }

    // "MODE 0: the place's number, OFFSET."
    private static void mode0() {
        Bench b = new Bench().put(99, 4711);
        b.does(3, Orders.own(Orders.LOAD, 99));
        Check.due("the last word", b.is(Bench.A), 4711);
        for (int word : new int[] {-32768, -1, 100, 101, 32767}) {
            b.does(3, Orders.own(Orders.LOAD, word));
            Check.dueAll("word " + word, b.fault(), 2, 3, 8, word);
        }
        int s = b.other(7, 7, 0, 7, 7, 20);
        b.x.define(s, 1, 2);
        b.x.link(0, 0, 7, 1);
        b.x.word(s, 2, Orders.own(Orders.POINT, 5));
        b.does(3, Orders.byLink(Orders.CALL, 0), 0);
        Check.dueAll("the place's number, not the first one", b.pointer(0), 3, 9, 5);
    }

    // "MODE 1: Pn's number, its word and OFFSET"
    private static void mode1Word() {
        Bench b = new Bench().put(50, Orders.pointerWord(0, 8, 65535), Orders.pointerWord(0, 8, 10)).put(99, 99);
        int p2 = point(2, Orders.indirect(Orders.own(0, 50)));
        int p3 = point(3, Orders.indirect(Orders.own(0, 51)));
        b.does(3, p2, Orders.byPointer(Orders.LOAD, 2, 32767));
        Check.dueAll("the word does not wrap at 16 bits", b.fault(), 2, 3, 8, 98302);
        b.does(3, p2, Orders.byPointer(Orders.LOAD, 2, 1));
        Check.dueAll("nor just above", b.fault(), 2, 3, 8, 65536);
        b.does(3, p3, Orders.byPointer(Orders.LOAD, 3, -11));
        Check.dueAll("below 0", b.fault(), 2, 3, 8, -1);
        b.does(3, p3, Orders.of(1, Orders.byPointer(Orders.WORD_X, 3, -10)));
        Check.due("the first word", b.is(Bench.X1), 0);
        b.does(3, p3, Orders.byPointer(Orders.LOAD, 3, 89));
        Check.due("the last word", b.is(Bench.A), 99);
        b.does(3, p3, Orders.byPointer(Orders.LOAD, 3, 90));
        Check.dueAll("behind the last word", b.fault(), 2, 3, 8, 100);
    }

    // "e is the greater one of it and Pn's ring"
    private static void mode1Ring() {
        for (int ring = 0; ring < 8; ring++) {
            for (int e = 0; e < 8; e++) {
                Bench b = new Bench().put(50, Orders.pointerWord(e, 8, 20));
                b.does(ring, point(4, Orders.indirect(Orders.own(0, 50))), point(5, Orders.byPointer(0, 4, 1)));
                Check.dueAll("ring " + ring + " by a pointer of " + e, b.pointer(5), Math.max(ring, e), 8, 21);
                Check.dueAll("the pointer stays", b.pointer(4), Math.max(ring, e), 8, 20);
            }
        }
    }

    // "21 to 23 n": each of P0 to P7
    private static void mode1EveryPointer() {
        for (int n = 0; n < 8; n++) {
            Bench b = new Bench().put(40 + n, 1000 + n);
            b.does(3, point(n, Orders.own(0, 40 + n)), Orders.byPointer(Orders.LOAD, n, 0));
            Check.due("P" + n, b.is(Bench.A), 1000 + n);
        }
    }

    /** Segment 1, name 7, defines symbol 1 as its word 4; link 2 of segment 0 names it. */
    private static Bench linked(int flags) {
        Bench b = new Bench();
        int s = b.other(7, flags, 0, 7, 7, 0);
        b.x.define(s, 1, 4);
        for (int k = 0; k < 20; k++) {
            b.x.word(s, k, 1000 + k);
        }
        b.x.link(0, 2, 7, 1);
        return b;
    }

    // "MODE 2: LINK OFFSET of the place's segment: the number and word that it is linked to"
    private static void mode2RingAndWord() {
        for (int ring = 0; ring < 8; ring++) {
            Bench b = linked(1);
            b.does(ring, point(3, Orders.byLink(0, 2)));
            Check.dueAll("in the place's ring " + ring, b.pointer(3), ring, 9, 4);
        }
        Bench b = linked(7);
        b.x.brackets(1, 0, 7, 7, 20);
        b.x.word(1, 4, Orders.byLink(Orders.LOAD, 2));
        b.does(3, Orders.byLink(Orders.CALL, 2), 0);
        Check.dueAll("a link of the place's segment, not of the first", b.fault(), 12, 3, 9, 2);
    }

    // "MODE 3: there is none; the OPERAND is OFFSET (and X)."
    private static void mode3() {
        Bench b = new Bench().brackets(3, 3, 3, 0);
        b.x.flags(0, 0, 4);
        b.does(3, Orders.immediate(Orders.LOAD, 300), loadX(1, 5), Orders.indexed(Orders.immediate(Orders.ADD, -1), 1));
        Check.due("nothing is asked", b.is(Bench.FAULTS), 0);
        Check.due("OFFSET and X", b.is(Bench.A), 304);
        b.does(3, loadX(1, 5), Orders.indexed(Orders.immediate(Orders.COMPARE, -5), 1));
        Check.due("COMPARE with it", b.is(Bench.CONDITION), 0);
        b.does(3, loadX(1, 5), Orders.indexed(loadX(2, 2), 1));
        Check.due("Xr of it", b.is(Bench.X2), 7);
    }

    // "In all of them Xx is added to the word"
    private static void xIsAdded() {
        for (int x = 1; x <= 3; x++) {
            Bench b = linked(1).put(90, 90, 91, 92, 93);
            int[] loads = {loadX(1, 1), loadX(2, 2), loadX(3, 3)};
            b.does(3, loads[0], loads[1], loads[2], Orders.indexed(Orders.own(Orders.LOAD, 90), x));
            Check.due("mode 0 and X" + x, b.is(Bench.A), 90 + x);
            b.does(3, loads[0], loads[1], loads[2], point(6, Orders.own(0, 80)),
                Orders.indexed(Orders.byPointer(Orders.LOAD, 6, 10), x));
            Check.due("mode 1 and X" + x, b.is(Bench.A), 90 + x);
            b.does(3, loads[0], loads[1], loads[2], Orders.indexed(Orders.byLink(Orders.LOAD, 2), x));
            Check.due("mode 2 and X" + x, b.is(Bench.A), 1004 + x);
            b.does(3, loads[0], loads[1], loads[2], Orders.indexed(Orders.immediate(Orders.LOAD, 90), x));
            Check.due("mode 3 and X" + x, b.is(Bench.A), 90 + x);
            b.put(93, Orders.pointerWord(0, 8, 91), Orders.pointerWord(0, 8, 91), Orders.pointerWord(0, 8, 91));
            b.does(3, loads[0], loads[1], loads[2], Orders.indexed(Orders.indirect(Orders.own(Orders.LOAD, 92)), x));
            Check.due("ahead of I, and not behind it, X" + x, b.is(Bench.A), 91);
            b.does(3, loadX(x, -5), Orders.indexed(Orders.byLink(Orders.LOAD, 2), x));
            Check.dueAll("below 0, X" + x, b.fault(), 2, 3, 9, -1);
        }
    }

    // "(x 0: nothing)"
    private static void x0AddsNothing() {
        Bench b = linked(1).put(90, 90, 91);
        b.put(0, loadX(1, 1), loadX(2, 2), loadX(3, 3), Orders.own(Orders.LOAD, 90)).start(3);
        Check.due("mode 0", b.run(4).is(Bench.A), 90);
        b.put(3, Orders.byLink(Orders.LOAD, 2)).start(3);
        Check.due("mode 2", b.run(4).is(Bench.A), 1004);
        b.put(3, Orders.immediate(Orders.LOAD, 7)).start(3);
        Check.due("mode 3", b.run(4).is(Bench.A), 7);
        b.put(3, Orders.of(3, Orders.byPointer(Orders.WORD_X, 4, 7))).start(3);
        Check.due("mode 1", b.run(4).is(Bench.X3), 7);
    }

    // "Xx is added to the word", "32 bits, which wrap"
    private static void xWraps() {
        Bench b = new Bench().put(50, MAX, MIN);
        int load = Orders.of(1, Orders.own(Orders.LOAD_X, 50));
        b.does(3, load, Orders.indexed(Orders.own(Orders.LOAD, 1), 1));
        Check.dueAll("above", b.fault(), 2, 3, 8, MIN);
        b.does(3, load, Orders.indexed(Orders.own(Orders.LOAD, 0), 1));
        Check.dueAll("the greatest", b.fault(), 2, 3, 8, MAX);
        b.does(3, Orders.of(1, Orders.own(Orders.LOAD_X, 51)), Orders.indexed(Orders.own(Orders.LOAD, -1), 1));
        Check.dueAll("below", b.fault(), 2, 3, 8, MAX);
        b.does(3, load, Orders.indexed(Orders.immediate(Orders.LOAD, 2), 1));
        Check.due("mode 3", b.is(Bench.A), MIN + 1);
    }

    // "With I (of MODE 3: fault 13)"
    private static void indirectOfMode3() {
        for (int op : new int[] {1, 3, 4, 5, 6, 7, 8, 9, 15, 17}) {
            Bench b = new Bench();
            b.does(3, Orders.of(1, Orders.immediate(op, 50)));
            Check.due("op " + op + " without I", b.is(Bench.FAULTS), 0);
            b.does(3, Orders.immediate(Orders.LOAD, 8), Orders.of(1, Orders.indirect(Orders.immediate(op, 50))));
            Check.dueAll("op " + op + " with I", b.fault(), 13, 3, 8, 1);
            Check.dueAll("op " + op + " with I, nothing is done", b.registers(), 8, 0, 0, 0, 0);
        }
    }

    // "With I .. the word there is read (1, 2, 3 as below)"
    private static void pointerWordMustBeRead() {
        Bench b = new Bench().brackets(0, 4, 7, 0);
        int s = b.other(7, 2, 0, 7, 7, 0);
        b.x.define(s, 1, 3);
        b.x.link(0, 0, 7, 1);
        b.put(50, Orders.again(Orders.pointerWord(0, 40, 1)), Orders.again(Orders.pointerWord(0, 8, 100)),
            Orders.again(Orders.pointerWord(5, 8, 52)), Orders.again(Orders.pointerWord(4, 8, 60)));
        b.put(60, Orders.pointerWord(0, 8, 70)).put(70, 77);
        b.does(4, Orders.indirect(Orders.own(Orders.LOAD, 50)));
        Check.dueAll("not known", b.fault(), 1, 4, 40, 1);
        b.does(4, Orders.indirect(Orders.own(Orders.LOAD, 51)));
        Check.dueAll("behind the last word", b.fault(), 2, 4, 8, 100);
        b.does(4, Orders.indirect(Orders.own(Orders.LOAD, 52)));
        Check.dueAll("by a ring above R2", b.fault(), 3, 5, 8, 52);
        b.does(4, Orders.indirect(Orders.own(Orders.LOAD, 53)));
        Check.due("by R2", b.is(Bench.A), 77);
        b.does(4, Orders.indirect(Orders.byLink(Orders.LOAD, 0)));
        Check.dueAll("without flag 1", b.fault(), 3, 4, 9, 3);
        b.does(4, Orders.indirect(Orders.own(Orders.LOAD, -1)));
        Check.dueAll("ahead of the first word", b.fault(), 2, 4, 8, -1);
        b.does(4, Orders.indirect(Orders.own(Orders.STORE, 100)));
        Check.dueAll("it is read also where is written", b.fault(), 2, 4, 8, 100);
    }

    // "a POINTER WORD: bit 31 again, 28 to 30 a ring, 16 to 27 a number, 0 to 15 a word"
    private static void pointerWordsParts() {
        int[][] parts = {{7, 4095, 65535}, {0, 0, 0}, {4, 2048, 32768}, {3, 2047, 32767}, {1, 1, 1}, {6, 4094, 65534}};
        for (int[] part : parts) {
            Bench b = new Bench().put(50, Orders.pointerWord(part[0], part[1], part[2]));
            b.does(0, point(5, Orders.indirect(Orders.own(0, 50))));
            Check.dueAll("its parts", b.pointer(5), part);
        }
    }

    // "the ADDRESS is its number and word, e the greatest one of e, its ring and R1 of the segment that it was
    // read from"
    private static void ringIsTheGreatest() {
        for (int i = 0; i < 512; i++) {
            int e = i / 64;
            int ring = i / 8 % 8;
            int r1 = i % 8;
            Bench b = new Bench();
            int s = b.other(7, 1, r1, 7, 7, 0);
            b.x.define(s, 1, 3);
            b.x.link(0, 0, 7, 1);
            b.x.word(s, 3, Orders.pointerWord(ring, 8, 30));
            b.does(e, point(5, Orders.indirect(Orders.byLink(0, 0))));
            int due = Math.max(e, Math.max(ring, r1));
            Check.dueAll("e " + e + ", its ring " + ring + ", R1 " + r1, b.pointer(5), due, 8, 30);
        }
        for (int k = 0; k < 8; k++) {
            Bench b = new Bench().put(50, Orders.again(Orders.pointerWord(0, k, 9)));
            b.does(0, point(5, Orders.indirect(Orders.own(0, 50))));
            Check.dueAll("R1 of stack " + k, b.pointer(5), k, 0, 0);
        }
    }

    // "if it has bit 31, so again"
    private static void bit31SoAgain() {
        Bench b = new Bench().put(50, Orders.again(Orders.pointerWord(2, 8, 51)), Orders.pointerWord(6, 8, 52), -1);
        b.does(1, point(5, Orders.indirect(Orders.own(0, 51))));
        Check.dueAll("without it no more", b.pointer(5), 6, 8, 52);
        b.does(1, point(5, Orders.indirect(Orders.own(0, 50))));
        Check.dueAll("with it one more", b.pointer(5), 6, 8, 52);
        b.put(51, Orders.pointerWord(1, 8, 52));
        b.does(1, point(5, Orders.indirect(Orders.own(0, 50))));
        Check.dueAll("the greatest ring of all on the way", b.pointer(5), 2, 8, 52);
    }

    // "(The ninth that would be read: fault 11.)"
    private static void theNinth() {
        for (int length = 1; length <= 10; length++) {
            Bench b = new Bench();
            for (int i = 1; i <= length; i++) {
                int word = Orders.pointerWord(i == 2 ? 4 : 0, 8, 50 + i);
                b.put(49 + i, i < length ? Orders.again(word) : word);
            }
            b.does(3, point(5, Orders.indirect(Orders.own(0, 50))));
            if (length <= 8) {
                Check.due(length + " are read", b.is(Bench.FAULTS), 0);
                Check.dueAll(length + " are read", b.pointer(5), length < 2 ? 3 : 4, 8, 50 + length);
            } else {
                Check.dueAll(length + " are not read", b.fault(), 11, 4, 8, 58);
                Check.dueAll(length + " are not read, the pointer stays", b.pointer(5), 3, 0, 0);
            }
        }
        int[][] ninths = {{0, 4095, 65535}, {0, 8, 100}, {7, 0, 0}};
        for (int[] ninth : ninths) {
            Bench b = new Bench();
            for (int k = 50; k < 57; k++) {
                b.put(k, Orders.again(Orders.pointerWord(0, 8, k + 1)));
            }
            b.put(57, Orders.again(Orders.pointerWord(ninth[0], ninth[1], ninth[2])));
            b.does(3, Orders.indirect(Orders.own(Orders.LOAD, 50)));
            int ring = Math.max(3, ninth[0]);
            Check.dueAll("11, though it could not be read", b.fault(), 11, ring, ninth[1], ninth[2]);
        }
    }

    // "its number must be KNOWN (1), its word one of the segment's (2), e MAY do it (3 read, 4 write, 5 execute),
    // in this order"
    private static void doneInThisOrder() {
        int[][] ops = {{Orders.LOAD, 3}, {Orders.ADD, 3}, {Orders.SUB, 3}, {Orders.MUL, 3}, {Orders.AND, 3},
            {Orders.OR, 3}, {Orders.XOR, 3}, {Orders.COMPARE, 3}, {Orders.LOAD_X, 3}, {Orders.RETURN, 3},
            {Orders.STORE, 4}, {Orders.STORE_X, 4}, {Orders.KEEP, 4}, {Orders.GO, 5}, {Orders.GO_ALIKE, 5},
            {Orders.GO_NOT_BELOW, 5}};
        for (int[] op : ops) {
            Bench b = new Bench().brackets(2, 4, 7, 0);
            b.put(50, Orders.pointerWord(7, 9, 300), Orders.pointerWord(7, 8, 100), Orders.pointerWord(7, 8, 99),
                Orders.pointerWord(7, 8, 65535), Orders.pointerWord(7, 4095, 0));
            int[][] due = {{1, 7, 9, 300}, {2, 7, 8, 100}, {op[1], 7, 8, 99}, {2, 7, 8, 65535}, {1, 7, 4095, 0}};
            for (int i = 0; i < due.length; i++) {
                b.does(3, Orders.of(1, Orders.indirect(Orders.own(op[0], 50 + i))));
                Check.dueAll("op " + op[0] + " case " + i, b.fault(), due[i]);
            }
        }
    }

    // "What doesn't use it asks nothing."
    private static void notUsedAsksNothing() {
        int[] unused = {Orders.of(1, Orders.own(Orders.WORD_X, 0)), Orders.own(Orders.POINT, 0),
            Orders.own(Orders.GO_UNLIKE, 0), Orders.own(Orders.GO_BELOW, 0), Orders.own(Orders.TRY_READ, 0),
            Orders.own(Orders.TRY_WRITE, 0)};
        int[] pointerWords = {Orders.pointerWord(7, 4095, 0), Orders.pointerWord(7, 8, 65535),
            Orders.pointerWord(7, 8, 5), Orders.pointerWord(7, 0, 0)};
        for (int order : unused) {
            for (int pointerWord : pointerWords) {
                Bench b = new Bench().brackets(2, 4, 7, 0).put(50, pointerWord);
                b.does(3, Orders.indirect(order) | 50);
                Check.due("op " + (order >>> 27), b.is(Bench.FAULTS), 0);
                Check.dueAll("op " + (order >>> 27) + " goes on", b.place(), 3, 8, 1);
            }
        }
    }

    // "LINKING: a LINK of a segment that the process used before is linked as then."
    private static void linkedAsThen() {
        Bench b = linked(1);
        b.put(0, Orders.byLink(Orders.LOAD, 2), point(3, Orders.byLink(0, 2)), Orders.own(Orders.GO, 0));
        b.start(3).run(3);
        b.x.link(0, 2, 999, 999);
        b.run(3);
        Check.dueAll("another name now", b.pointer(3), 3, 9, 4);
        b.x.flags(1, 0, 0);
        b.run(1);
        Check.dueAll("without flags it can't be read", b.fault(), 3, 3, 9, 4);
        b = linked(1);
        b.put(0, point(3, Orders.byLink(0, 2)), Orders.own(Orders.GO, 0)).start(3).run(2);
        b.x.flags(1, 0, 0);
        b.x.link(0, 2, 7, 55);
        Check.due("but it is linked", b.run(1).is(Bench.FAULTS), 0);
        Check.due("known once", b.is(Bench.KNOWS), 10);
    }

    // "Else the LINK must be there (also OFFSET 0 to 15 ..)"
    private static void linkMustBeThere() {
        Bench b = linked(1);
        b.x.link(0, 0, 7, 1);
        b.x.link(0, 15, 7, 1);
        for (int offset : new int[] {-32768, -16, -1, 1, 3, 14, 16, 17, 31, 32, 255, 32767}) {
            b.does(3, Orders.byLink(Orders.LOAD, offset));
            Check.dueAll("OFFSET " + offset, b.fault(), 12, 3, 8, offset);
        }
        for (int offset : new int[] {0, 2, 15}) {
            b.does(3, Orders.byLink(Orders.LOAD, offset));
            Check.due("OFFSET " + offset, b.is(Bench.A), 1004);
        }
        b.does(3, loadX(1, 2), Orders.indexed(Orders.byLink(Orders.LOAD, 1), 1));
        Check.dueAll("X does not choose the link", b.fault(), 12, 3, 8, 1);
    }

    // "a segment have that NAME"
    private static void nameMustBeThere() {
        Bench b = linked(1);
        b.x.link(0, 2, 8, 1);
        b.does(3, Orders.byLink(Orders.LOAD, 2));
        Check.dueAll("no such name", b.fault(), 12, 3, 8, 2);
        b.x.link(0, 2, 1, 1);
        b.does(3, Orders.byLink(Orders.LOAD, 2));
        Check.dueAll("a segment's number is no name", b.fault(), 12, 3, 8, 2);
        for (int name : new int[] {MIN, -1, 0, MAX}) {
            int s = b.other(name, 1, 0, 7, 7, 0);
            b.x.define(s, name, 5);
            b.x.word(s, 5, 50 + s);
            b.x.link(0, 2, name, name);
            b.does(3, Orders.byLink(Orders.LOAD, 2));
            Check.due("name " + name, b.is(Bench.A), 50 + s);
        }
    }

    // "for which the USER has some FLAG"
    private static void someFlag() {
        for (int flags = 0; flags < 8; flags++) {
            Bench b = linked(flags);
            b.x.flags(1, 1, 7);
            b.does(3, point(3, Orders.byLink(0, 2)));
            Check.due("flags " + flags, b.is(Bench.KIND), flags == 0 ? 12 : 0);
            Check.due("flags " + flags + ", known", b.is(Bench.KNOWS), flags == 0 ? 9 : 10);
        }
        Bench b = linked(0);
        b.put(0, point(3, Orders.byLink(0, 2))).start(3);
        b.x.handler(0, 1, 0);
        b.run(1);
        Check.dueAll("one that is known needs it too", b.fault(), 12, 3, 8, 2);
    }

    // "and that segment a DEFINITION of the SYMBOL"
    private static void definitionMustBeThere() {
        Bench b = linked(7);
        b.x.define(0, 2, 50);
        b.x.link(0, 2, 7, 2);
        b.does(3, Orders.byLink(Orders.LOAD, 2));
        Check.dueAll("another segment has it", b.fault(), 12, 3, 8, 2);
        Check.due("it is not known for that", b.is(Bench.KNOWS), 9);
        b.x.link(0, 2, 7, 0);
        b.does(3, Orders.byLink(Orders.LOAD, 2));
        Check.dueAll("symbol 0 is not there", b.fault(), 12, 3, 8, 2);
        b.x.define(1, 0, 19);
        b.does(3, Orders.byLink(Orders.LOAD, 2));
        Check.due("symbol 0 is there", b.is(Bench.A), 1019);
    }

    // "the segment is KNOWN (as the next number, if it wasn't)"
    private static void knownAsTheNextNumber() {
        Bench b = new Bench();
        for (int i = 0; i < 15; i++) {
            int s = b.other(i, 1, 0, 7, 7, 0);
            b.x.define(s, 3, i);
            b.x.link(0, 15 - i, i, 3);
        }
        for (int k = 1; k <= 15; k++) {
            b.put(k - 1, point(k % 8, Orders.byLink(0, k)));
        }
        b.start(3);
        for (int k = 1; k <= 15; k++) {
            b.run(1);
            Check.dueAll("link " + k, b.pointer(k % 8), 3, 8 + k, 15 - k);
            Check.due("link " + k + ", its segment", b.x.known(0, 8 + k), 16 - k);
            Check.due("link " + k + ", all that is known", b.is(Bench.KNOWS), 9 + k);
        }
    }

    // "(as the next number, if it wasn't)": what is known keeps its number
    private static void knownAlready() {
        Bench b = linked(1);
        b.x.define(0, 6, 30);
        b.x.define(1, 6, 7);
        b.x.link(0, 3, 100, 6);
        b.x.link(0, 4, 7, 6);
        b.does(3, point(1, Orders.byLink(0, 3)), point(2, Orders.byLink(0, 2)), point(3, Orders.byLink(0, 4)));
        Check.dueAll("its own segment", b.pointer(1), 3, 8, 30);
        Check.dueAll("another", b.pointer(2), 3, 9, 4);
        Check.dueAll("by another link", b.pointer(3), 3, 9, 7);
        Check.due("each once", b.is(Bench.KNOWS), 10);
        b.start(3);
        Check.due("by the handler", b.x.handler(0, 1, 0), 9);
        b.run(2);
        Check.dueAll("the handler's number", b.pointer(2), 3, 9, 4);
    }

    // "Else fault 12.": what failed is not linked, so it is tried anew
    private static void refusedLinkIsTriedAgain() {
        Bench b = new Bench();
        b.put(0, Orders.of(1, Orders.byLink(Orders.WORD_X, 2))).put(60, Orders.own(Orders.RESUME, 0)).start(3);
        b.x.handler(0, 0, 60);
        Check.dueAll("no link", b.run(2).fault(), 12, 3, 8, 2);
        b.x.link(0, 2, 7, 1);
        Check.due("no segment", b.run(2).is(Bench.FAULTS), 2);
        int s = b.other(7, 0, 0, 7, 7, 0);
        b.x.define(s, 1, 4);
        Check.due("no flag", b.run(2).is(Bench.FAULTS), 3);
        b.x.flags(s, 0, 2);
        b.x.link(0, 2, 7, 5);
        Check.due("no definition", b.run(2).is(Bench.FAULTS), 4);
        Check.due("not known so far", b.is(Bench.KNOWS), 9);
        b.x.define(s, 5, 6);
        Check.due("linked", b.run(1).is(Bench.FAULTS), 4);
        Check.due("its word", b.is(Bench.X1), 6);
        Check.due("known", b.is(Bench.KNOWS), 10);
    }

    // "a LINK of a segment": link 2 of one segment is not link 2 of another
    private static void linksOfEachSegment() {
        Bench b = linked(7);
        b.x.brackets(1, 0, 7, 7, 20);
        b.x.define(0, 9, 33);
        b.x.link(1, 2, 100, 9);
        b.x.word(1, 4, point(3, Orders.byLink(0, 2)));
        b.x.word(1, 5, point(4, Orders.byLink(0, 2)));
        b.does(3, Orders.byLink(Orders.CALL, 2), 0, 0);
        Check.dueAll("its own link", b.pointer(3), 3, 8, 33);
        Check.dueAll("again", b.pointer(4), 3, 8, 33);
    }

    // "that the process used before": each process for itself
    private static void linksOfEachProcess() {
        Counted x = new Counted();
        for (int s = 0; s < 5; s++) {
            x.segment(s, 10);
            x.brackets(s, 0, 7, 7, 0);
            x.define(s, 1, s + 2);
            for (int p = 0; p < 4; p++) {
                x.flags(s, p, 7);
            }
        }
        x.word(0, 0, point(3, Orders.byLink(0, 7)));
        x.word(0, 1, Orders.own(Orders.GO, 0));
        for (int p = 0; p < 4; p++) {
            x.link(0, 7, 1 + p, 1);
            x.start(p, 0, 0, 3);
            x.run(p, 2);
        }
        for (int p = 0; p < 4; p++) {
            x.run(p, 2);
            Check.due("process " + p + ", number", x.pointer(p, 3, 1), 9);
            Check.due("process " + p + ", segment", x.known(p, 9), 1 + p);
            Check.due("process " + p + ", word", x.pointer(p, 3, 2), 3 + p);
            Check.due("process " + p + " knows", x.state(p, Bench.KNOWS), 10);
        }
    }
}
