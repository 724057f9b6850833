/**
 * The boundaries of part 3 of the terms, the OPS: a method for each sentence that names one, with the sentence
 * above it.
 */
public final class OpBoundsTest {
    private static final int MIN = Integer.MIN_VALUE;
    private static final int MAX = Integer.MAX_VALUE;
    private static final int ALL_OTHER_BITS = (1 << 27) - 1;

    public static void main(String[] args) {
        otherOps();
        mode3Refused();
        rRefused();
        rOfOthers();
        haltSayResumeHaveNoAddress();
        halt();
        store();
        withTheOperand();
        compare();
        goWhere();
        goMustBeExecuted();
        goInThePlacesRing();
        goesNotMakesTheAddress();
        indexIsTheOperand();
        indexIsWritten();
        indexIsTheWord();
        pointsWord();
        pointNeedsNotBeKnown();
        keepWithoutBit31();
        callKnownAndWord();
        callFlag4();
        callGates();
        callBrackets();
        callOrderOfFaults();
        callPointers();
        returnsRing();
        returnMayExecute();
        returnRaisesPointers();
        returnBit31();
        tryRead();
        tryWrite();
        sayInRing0();
        Check.finish();
    }

    private static int loadX(int r, int operand) {
        return Orders.of(r, Orders.immediate(Orders.LOAD_X, operand));
    }

    private static int point(int r, int order) {
        return Orders.of(r, Orders.POINT << 27 | order & ALL_OTHER_BITS);
    }

    /** Segment 1, name 7, with some gates; links 0 and 1 of segment 0 go to its words 4 and 5. */
    private static Bench withTarget(int flags, int r1, int r2, int r3, int gates) {
        Bench b = new Bench();
        int s = b.other(7, flags, r1, r2, r3, gates);
        b.x.define(s, 1, 4);
        b.x.define(s, 2, 5);
        b.x.link(0, 0, 7, 1);
        b.x.link(0, 1, 7, 2);
        return b;
    }

    /** An order that is none: 13 at its place, whatever else it has, and nothing is linked or done by it. */
    private static void dueNone(String of, int order) {
        Bench b = withTarget(7, 0, 7, 7, 20);
        b.does(3, Orders.immediate(Orders.LOAD, 8), order);
        Check.dueAll(of, b.fault(), 13, 3, 8, 1);
        Check.due(of + ", ahead of the address: nothing linked", b.is(Bench.KNOWS), 9);
        Check.dueAll(of + ", nothing done", b.registers(), 8, 0, 0, 0, 0);
        Check.dueAll(of + ", the place stays", b.place(), 3, 8, 1);
        Check.due(of + ", FAULTED", b.is(Bench.STATUS), Bench.FAULTED);
    }

    // "OPS (others: fault 13, ahead of the ADDRESS ..)"
    private static void otherOps() {
        for (int op = 26; op < 32; op++) {
            dueNone("op " + op, Orders.own(op, 0));
            dueNone("op " + op + " with r 1", Orders.of(1, Orders.own(op, 50)));
            dueNone("op " + op + " of a word that is not there", Orders.indirect(Orders.own(op, 100)));
            dueNone("op " + op + " of a link", Orders.byLink(op, 0));
            dueNone("op " + op + " of a link that is not there", Orders.byLink(op, 9));
            dueNone("op " + op + " of mode 3", Orders.immediate(op, 0));
            dueNone("op " + op + " of all bits", op << 27 | ALL_OTHER_BITS);
        }
    }

    // "MODE 3 of 2, 10 to 14, 16, 18 to 23: 13, likewise"
    private static void mode3Refused() {
        for (int op : new int[] {2, 10, 11, 12, 13, 14, 16, 18, 19, 20, 21, 22, 23}) {
            dueNone("mode 3 of " + op, Orders.of(1, Orders.immediate(op, 0)));
            dueNone("mode 3 of " + op + " with I", Orders.of(1, Orders.indirect(Orders.immediate(op, 0))));
        }
        for (int op : new int[] {1, 3, 4, 5, 6, 7, 8, 9, 15, 17}) {
            Bench b = new Bench();
            b.does(3, Orders.of(1, Orders.immediate(op, 50)));
            Check.due("mode 3 of " + op, b.is(Bench.FAULTS), 0);
        }
    }

    // "r 0 or above 3 of 15, 16, 17: 13, likewise"
    private static void rRefused() {
        for (int op = 15; op <= 17; op++) {
            for (int r : new int[] {0, 4, 5, 6, 7}) {
                dueNone("r " + r + " of " + op, Orders.of(r, Orders.own(op, 50)));
                dueNone("r " + r + " of " + op + " and a link", Orders.of(r, Orders.byLink(op, 0)));
                dueNone("r " + r + " of " + op + " and no link", Orders.of(r, Orders.byLink(op, 9)));
                dueNone("r " + r + " of " + op + " and I", Orders.of(r, Orders.indirect(Orders.own(op, 100))));
                dueNone("r " + r + " of " + op + " and mode 3", Orders.of(r, Orders.immediate(op, 5)));
            }
            for (int r = 1; r <= 3; r++) {
                Bench b = new Bench();
                b.does(0, Orders.of(r, Orders.own(op, 50)));
                Check.due("r " + r + " of " + op, b.is(Bench.FAULTS), 0);
            }
        }
    }

    // "r 0 or above 3 of 15, 16, 17": of the others it is free
    private static void rOfOthers() {
        for (int r = 0; r < 8; r++) {
            for (int op = 1; op <= 23; op++) {
                if (op < 15 || op > 17) {
                    Bench b = new Bench().put(50, Orders.pointerWord(0, 8, 1));
                    b.does(0, Orders.of(r, Orders.own(op, 50)));
                    Check.due("r " + r + " of " + op, b.is(Bench.FAULTS), 0);
                }
            }
        }
    }

    // "0, 24, 25 have no ADDRESS."
    private static void haltSayResumeHaveNoAddress() {
        int[] others = {ALL_OTHER_BITS, Orders.byLink(0, 9), Orders.byLink(0, 0), Orders.indirect(Orders.own(0, 100)),
            Orders.immediate(0, 5), Orders.indirect(Orders.immediate(0, 5)), Orders.indirect(Orders.byLink(0, 0))};
        for (int other : others) {
            Bench b = withTarget(7, 0, 7, 7, 20);
            b.does(3, Orders.HALT << 27 | other);
            Check.due("HALT", b.is(Bench.STATUS), Bench.HALTED);
            Check.due("HALT links nothing", b.is(Bench.KNOWS), 9);
            b.does(0, Orders.SAY << 27 | other);
            Check.due("SAY", b.x.sayings(), 1);
            Check.due("SAY links nothing", b.is(Bench.KNOWS), 9);
            b.put(0, Orders.own(31, 0)).put(60, Orders.RESUME << 27 | other).start(3);
            b.x.handler(0, 0, 60);
            Check.dueAll("RESUME", b.run(2).place(), 3, 8, 0);
            Check.due("RESUME, no fault more", b.is(Bench.FAULTS), 1);
            Check.due("RESUME links nothing", b.is(Bench.KNOWS), 9);
        }
    }

    // "0 HALT: it's HALTED (the place stays)."
    private static void halt() {
        for (int ring = 0; ring < 8; ring++) {
            Bench b = new Bench();
            b.does(ring, Orders.immediate(Orders.LOAD, 4), Orders.own(Orders.HALT, 0));
            Check.due("HALTED", b.is(Bench.STATUS), Bench.HALTED);
            Check.dueAll("the place stays", b.place(), ring, 8, 1);
            Check.due("a step", b.is(Bench.STEPS), 2);
            Check.due("no fault", b.is(Bench.FAULTS), 0);
        }
    }

    // "2 STORE: A is written at the ADDRESS."
    private static void store() {
        for (int r1 = 0; r1 < 8; r1++) {
            for (int ring = 0; ring < 8; ring++) {
                Bench b = withTarget(2, r1, 7, 7, 0);
                b.does(ring, Orders.immediate(Orders.LOAD, 55), Orders.byLink(Orders.STORE, 0));
                Check.due("ring " + ring + ", R1 " + r1, b.x.stored(1, 4), ring <= r1 ? 55 : 0);
                Check.due("ring " + ring + ", R1 " + r1 + ", kind", b.is(Bench.KIND), ring <= r1 ? 0 : 4);
            }
        }
        Bench b = withTarget(5, 7, 7, 7, 0);
        b.does(3, Orders.immediate(Orders.LOAD, 55), Orders.byLink(Orders.STORE, 0));
        Check.dueAll("without flag 2", b.fault(), 4, 3, 9, 4);
        b = new Bench();
        b.does(0, Orders.immediate(Orders.LOAD, 55), Orders.own(Orders.STORE, 99), Orders.own(Orders.STORE, 100));
        Check.due("the last word", b.x.stored(0, 99), 55);
        Check.dueAll("behind the last word", b.fault(), 2, 0, 8, 100);
    }

    // "1 LOAD: A is the OPERAND. .. 3 ADD, 4 SUB, 5 MUL, 6 AND, 7 OR, 8 XOR: A with the OPERAND."
    private static void withTheOperand() {
        int[] values = {MIN, -65536, -6, -1, 0, 1, 5, 65535, 65536, MAX};
        for (int a : values) {
            for (int v : values) {
                int[] due = {v, 0, a + v, a - v, a * v, a & v, a | v, a ^ v};
                Bench b = new Bench().put(50, a, v);
                for (int op : new int[] {1, 3, 4, 5, 6, 7, 8}) {
                    b.does(3, Orders.own(Orders.LOAD, 50), Orders.own(op, 51));
                    Check.dueAll("op " + op + " of " + a + " and " + v, b.registers(), due[op - 1], 0, 0, 0, 0);
                }
                if (v == (short) v) {
                    for (int op : new int[] {1, 3, 4, 5, 6, 7, 8}) {
                        b.does(3, Orders.own(Orders.LOAD, 50), Orders.immediate(op, v));
                        Check.due("op " + op + " of " + a + " and " + v + ", mode 3", b.is(Bench.A), due[op - 1]);
                    }
                }
            }
        }
        Bench b = new Bench().brackets(0, 5, 7, 0);
        int s = b.other(7, 6, 0, 7, 7, 0);
        b.x.define(s, 1, 0);
        b.x.link(0, 0, 7, 1);
        for (int op : new int[] {1, 3, 4, 5, 6, 7, 8, 9}) {
            b.does(3, Orders.byLink(op, 0));
            Check.dueAll("op " + op + " must read it", b.fault(), 3, 3, 9, 0);
        }
    }

    // "9 COMPARE: the CONDITION is -1, 0, 1 as A is below it, alike, above."
    private static void compare() {
        int[] values = {MIN, MIN + 1, -1, 0, 1, MAX - 1, MAX};
        for (int a : values) {
            for (int operand : values) {
                Bench b = new Bench().put(50, a, operand);
                b.does(3, Orders.own(Orders.LOAD, 50), Orders.own(Orders.COMPARE, 51));
                Check.due(a + " with " + operand, b.is(Bench.CONDITION), Integer.compare(a, operand));
                Check.due("A stays", b.is(Bench.A), a);
            }
        }
    }

    // "10 GO; 11, 12, 13, 14 GO if the CONDITION is 0, is not 0, is -1, is not -1"
    private static void goWhere() {
        String[] goes = {"-01", "0", "-1", "-", "01"};
        for (int op = 10; op <= 14; op++) {
            for (int condition = -1; condition <= 1; condition++) {
                Bench b = new Bench();
                b.does(3, Orders.immediate(Orders.LOAD, condition), Orders.immediate(Orders.COMPARE, 0),
                    Orders.own(op, 99));
                boolean due = goes[op - 10].indexOf("-01".charAt(condition + 1)) >= 0;
                Check.dueAll("op " + op + " at " + condition, b.place(), 3, 8, due ? 99 : 3);
            }
        }
    }

    // "to the ADDRESS, which must be executed (1, 2, 5 by e)"
    private static void goMustBeExecuted() {
        for (int r1 = 0; r1 < 8; r1++) {
            for (int ring = 0; ring < 8; ring++) {
                int r2 = Math.min(7, r1 + 2);
                Bench b = withTarget(4, r1, r2, 7, 0);
                b.does(ring, Orders.byLink(Orders.GO, 0));
                boolean may = ring >= r1 && ring <= r2;
                Check.due("ring " + ring + " to " + r1 + " " + r2, b.is(Bench.KIND), may ? 0 : 5);
                Check.due("ring " + ring + " to " + r1 + " " + r2 + ", number", b.is(Bench.NUMBER), may ? 9 : 8);
            }
        }
        Bench b = withTarget(3, 0, 7, 7, 20);
        b.does(3, Orders.byLink(Orders.GO, 0));
        Check.dueAll("without flag 4", b.fault(), 5, 3, 9, 4);
        b.put(50, Orders.pointerWord(3, 9, 0));
        b.does(3, Orders.indirect(Orders.own(Orders.GO, 50)));
        Check.dueAll("not known", b.fault(), 1, 3, 9, 0);
        b.does(3, Orders.own(Orders.GO, 100));
        Check.dueAll("behind the last word", b.fault(), 2, 3, 8, 100);
        b.does(3, Orders.own(Orders.GO, -1));
        Check.dueAll("ahead of the first word", b.fault(), 2, 3, 8, -1);
    }

    // "e being the place's ring (else 9)"
    private static void goInThePlacesRing() {
        for (int op = 10; op <= 14; op++) {
            int condition = op == 12 || op == 13 ? -1 : 0;
            for (int ring = 0; ring < 8; ring++) {
                Bench b = new Bench().put(50, Orders.pointerWord(ring, 8, 30));
                b.does(3, Orders.immediate(Orders.LOAD, condition), Orders.immediate(Orders.COMPARE, 0),
                    Orders.indirect(Orders.own(op, 50)));
                Check.due("op " + op + " by " + ring, b.is(Bench.KIND), ring <= 3 ? 0 : 9);
                Check.dueAll("op " + op + " by " + ring, b.place(), 3, 8, ring <= 3 ? 30 : 2);
            }
        }
        Bench b = new Bench().brackets(0, 4, 4, 0).put(50, Orders.pointerWord(5, 8, 30));
        b.does(3, Orders.indirect(Orders.own(Orders.GO, 50)));
        Check.dueAll("5 ahead of 9", b.fault(), 5, 5, 8, 30);
    }

    // "(Where it doesn't go the ADDRESS is made all the same.)"
    private static void goesNotMakesTheAddress() {
        int[][] cases = {{11, 1}, {12, 0}, {13, 0}, {14, -1}};
        for (int[] c : cases) {
            int[] ahead = {Orders.immediate(Orders.LOAD, c[1]), Orders.immediate(Orders.COMPARE, 0)};
            Bench b = withTarget(1, 0, 0, 0, 0);
            b.does(3, ahead[0], ahead[1], Orders.byLink(c[0], 0));
            Check.due("op " + c[0] + " links", b.is(Bench.KNOWS), 10);
            Check.dueAll("op " + c[0] + " goes on", b.place(), 3, 8, 3);
            b.does(3, ahead[0], ahead[1], Orders.byLink(c[0], 9));
            Check.dueAll("op " + c[0] + ", no link", b.fault(), 12, 3, 8, 9);
            b.does(3, ahead[0], ahead[1], Orders.indirect(Orders.own(c[0], 100)));
            Check.dueAll("op " + c[0] + ", no pointer word", b.fault(), 2, 3, 8, 100);
            b.put(50, Orders.again(Orders.pointerWord(0, 8, 50)));
            b.does(3, ahead[0], ahead[1], Orders.indirect(Orders.own(c[0], 50)));
            Check.dueAll("op " + c[0] + ", too many", b.fault(), 11, 3, 8, 50);
        }
    }

    // "15 Xr is the OPERAND."
    private static void indexIsTheOperand() {
        for (int r = 1; r <= 3; r++) {
            Bench b = new Bench().put(50, MIN);
            b.does(3, Orders.of(r, Orders.own(Orders.LOAD_X, 50)));
            int[] due = new int[5];
            due[r] = MIN;
            Check.dueAll("X" + r + " alone", b.registers(), due);
            b.x.flags(0, 0, 4);
            b.does(3, Orders.of(r, Orders.own(Orders.LOAD_X, 50)));
            Check.dueAll("must be read", b.fault(), 3, 3, 8, 50);
            Check.due("X" + r + " stays", b.is(Bench.A + r), 0);
        }
    }

    // "16 Xr is written at the ADDRESS."
    private static void indexIsWritten() {
        for (int r = 1; r <= 3; r++) {
            Bench b = new Bench().brackets(3, 7, 7, 0);
            b.put(0, loadX(1, 101), loadX(2, 102), loadX(3, 103), Orders.of(r, Orders.own(Orders.STORE_X, 99)));
            b.start(3).run(4);
            Check.due("X" + r, b.x.stored(0, 99), 100 + r);
            b.put(99, 5).start(4).run(4);
            Check.dueAll("must be written", b.fault(), 4, 4, 8, 99);
            Check.due("nothing is written", b.x.stored(0, 99), 5);
        }
    }

    // "17 Xr is the ADDRESS's word (of MODE 3 the OPERAND)."
    private static void indexIsTheWord() {
        Bench b = new Bench().put(50, Orders.pointerWord(7, 4095, 65535), MAX);
        for (int r = 1; r <= 3; r++) {
            b.does(3, Orders.of(r, Orders.indirect(Orders.own(Orders.WORD_X, 50))));
            Check.due("X" + r + ", the word of what is not known", b.is(Bench.A + r), 65535);
            b.does(3, Orders.of(1, Orders.own(Orders.LOAD_X, 51)), Orders.of(r, Orders.own(Orders.WORD_X, -32768)));
            Check.due("X" + r + ", a word below 0", b.is(Bench.A + r), -32768);
            b.does(3, Orders.of(1, Orders.own(Orders.LOAD_X, 51)),
                Orders.indexed(Orders.of(r, Orders.own(Orders.WORD_X, 1)), 1));
            Check.due("X" + r + " wraps", b.is(Bench.A + r), MIN);
            b.does(3, Orders.of(r, Orders.immediate(Orders.WORD_X, -9)));
            Check.due("X" + r + " of mode 3", b.is(Bench.A + r), -9);
        }
    }

    // "18 POINT: Pr is the ADDRESS (its word 0 to 65535, else 2 ..)"
    private static void pointsWord() {
        for (int word : new int[] {MIN, -65536, -1, 0, 1, 65534, 65535, 65536, 131072, MAX}) {
            for (int r : new int[] {0, 1, 7}) {
                Bench b = new Bench().put(50, word);
                b.does(3, Orders.of(1, Orders.own(Orders.LOAD_X, 50)), point(r, Orders.indexed(Orders.own(0, 0), 1)));
                if (word >= 0 && word <= 65535) {
                    Check.dueAll("word " + word, b.pointer(r), 3, 8, word);
                    Check.due("word " + word, b.is(Bench.FAULTS), 0);
                } else {
                    Check.dueAll("word " + word, b.fault(), 2, 3, 8, word);
                    Check.dueAll("word " + word + ", the pointer stays", b.pointer(r), 3, 0, 0);
                }
            }
        }
    }

    // "(.. it needs not be KNOWN)"
    private static void pointNeedsNotBeKnown() {
        for (int number : new int[] {0, 7, 8, 9, 39, 40, 4095}) {
            Bench b = new Bench().put(50, Orders.pointerWord(5, number, 65535));
            b.does(3, point(6, Orders.indirect(Orders.own(0, 50))));
            Check.dueAll("number " + number, b.pointer(6), 5, number, 65535);
            Check.due("number " + number + ", no fault", b.is(Bench.FAULTS), 0);
            Check.due("number " + number + ", not known by it", b.is(Bench.KNOWS), 9);
        }
    }

    // "19 KEEP: Pr is written at the ADDRESS as a POINTER WORD (without bit 31)."
    private static void keepWithoutBit31() {
        int[][] parts = {{7, 4095, 65535}, {4, 2048, 32768}, {0, 1, 2}, {3, 0, 0}};
        for (int[] part : parts) {
            for (int r = 0; r < 8; r++) {
                Bench b = new Bench().put(50, Orders.again(Orders.pointerWord(part[0], 8, 51)));
                b.put(51, Orders.pointerWord(part[0], part[1], part[2]));
                b.does(0, point(r, Orders.indirect(Orders.own(0, 50))), Orders.of(r, Orders.own(Orders.KEEP, 99)));
                Check.due("P" + r, b.x.stored(0, 99), Orders.pointerWord(part[0], part[1], part[2]));
            }
        }
        Bench b = new Bench().brackets(3, 7, 7, 0).put(99, 5);
        b.does(4, Orders.own(Orders.KEEP, 99));
        Check.dueAll("must be written", b.fault(), 4, 4, 8, 99);
        Check.due("nothing is written", b.x.stored(0, 99), 5);
        b.does(3, Orders.own(Orders.KEEP, 100));
        Check.dueAll("behind the last word", b.fault(), 2, 3, 8, 100);
        b.does(3, Orders.own(Orders.KEEP, 99));
        Check.due("the ring is in it", b.x.stored(0, 99), Orders.pointerWord(3, 0, 0));
    }

    // "20 CALL, of the ADDRESS (e, number, word): 1, 2"
    private static void callKnownAndWord() {
        Bench b = withTarget(4, 0, 7, 7, 20);
        b.put(50, Orders.pointerWord(3, 9, 0), Orders.pointerWord(3, 4095, 0));
        b.does(3, Orders.indirect(Orders.own(Orders.CALL, 50)));
        Check.dueAll("not known", b.fault(), 1, 3, 9, 0);
        b.does(3, Orders.indirect(Orders.own(Orders.CALL, 51)));
        Check.dueAll("the last number", b.fault(), 1, 3, 4095, 0);
        b.does(3, loadX(1, 16), Orders.indexed(Orders.byLink(Orders.CALL, 0), 1));
        Check.dueAll("behind the last word", b.fault(), 2, 3, 9, 20);
        b.does(3, loadX(1, -5), Orders.indexed(Orders.byLink(Orders.CALL, 0), 1));
        Check.dueAll("ahead of the first word", b.fault(), 2, 3, 9, -1);
        b.does(3, loadX(1, 15), Orders.indexed(Orders.byLink(Orders.CALL, 0), 1));
        Check.dueAll("the last word", b.place(), 3, 9, 19);
        b.does(3, loadX(1, -4), Orders.indexed(Orders.byLink(Orders.CALL, 0), 1));
        Check.dueAll("the first word", b.place(), 3, 9, 0);
        b.does(3, Orders.own(Orders.CALL, 100));
        Check.dueAll("its own segment, behind the last word", b.fault(), 2, 3, 8, 100);
        b.does(3, Orders.own(Orders.CALL, -1));
        Check.dueAll("its own segment, ahead of the first word", b.fault(), 2, 3, 8, -1);
    }

    // "the segment has flag 4, else 5"
    private static void callFlag4() {
        for (int flags = 1; flags < 8; flags++) {
            Bench b = withTarget(flags, 0, 7, 7, 20);
            b.does(3, Orders.byLink(Orders.CALL, 0));
            Check.due("flags " + flags, b.is(Bench.KIND), flags >= 4 ? 0 : 5);
        }
        Bench b = withTarget(4, 0, 2, 5, 20);
        b.does(5, Orders.byLink(Orders.CALL, 0));
        Check.dueAll("e needs not be one that may execute", b.place(), 2, 9, 4);
    }

    // "if it isn't the place's number, the word is one of its GATES, else 6"
    private static void callGates() {
        for (int gates = 3; gates <= 6; gates++) {
            Bench b = withTarget(4, 0, 7, 7, gates);
            b.does(3, Orders.byLink(Orders.CALL, 0));
            Check.due("word 4 of " + gates + " gates", b.is(Bench.KIND), gates > 4 ? 0 : 6);
            b.does(3, Orders.byLink(Orders.CALL, 1));
            Check.due("word 5 of " + gates + " gates", b.is(Bench.KIND), gates > 5 ? 0 : 6);
        }
        Bench b = new Bench().brackets(0, 7, 7, 5);
        for (int word : new int[] {4, 5, 99}) {
            b.does(3, Orders.own(Orders.CALL, word));
            Check.dueAll("its own segment asks for none", b.place(), 3, 8, word);
        }
        b.put(50, Orders.pointerWord(3, 8, 99));
        b.does(3, Orders.indirect(Orders.own(Orders.CALL, 50)));
        Check.dueAll("nor by a pointer word", b.place(), 3, 8, 99);
    }

    // "e below R1: 7; e above R3: 8; the new ring is e, if e is at most R2, else R2; it is at most the place's ring,
    // else 9."
    private static void callBrackets() {
        int[][] brackets = {{0, 0, 0}, {0, 7, 7}, {2, 4, 6}, {3, 3, 3}, {3, 3, 5}, {1, 5, 5}, {7, 7, 7}, {0, 2, 4}};
        for (int[] r : brackets) {
            for (int i = 0; i < 64; i++) {
                int ring = i / 8;
                int e = i % 8;
                if (e < ring) {
                    continue;
                }
                Bench b = withTarget(4, r[0], r[1], r[2], 5).put(50, Orders.pointerWord(e, 9, 4));
                b.does(ring, Orders.byLink(Orders.TRY_READ, 0), Orders.indirect(Orders.own(Orders.CALL, 50)));
                int newRing = Math.min(e, r[1]);
                int kind = e < r[0] ? 7 : e > r[2] ? 8 : newRing > ring ? 9 : 0;
                String of = "ring " + ring + ", e " + e + " to " + r[0] + " " + r[1] + " " + r[2];
                if (kind == 0) {
                    Check.dueAll(of, b.place(), newRing, 9, 4);
                    Check.dueAll(of + ", P0", b.pointer(0), newRing, newRing, 0);
                    Check.dueAll(of + ", P7", b.pointer(7), ring, 8, 2);
                } else {
                    Check.dueAll(of, b.fault(), kind, e, 9, 4);
                    Check.dueAll(of + ", the place stays", b.place(), ring, 8, 1);
                    Check.dueAll(of + ", P0 stays", b.pointer(0), ring, 0, 0);
                    Check.dueAll(of + ", P7 stays", b.pointer(7), ring, 0, 0);
                }
                Check.due(of + ", calls", b.is(Bench.CALLS), kind == 0 ? 1 : 0);
            }
        }
    }

    // CALL's faults in the order in which they are told: 1, 2, 5, 6, 7 or 8, 9
    private static void callOrderOfFaults() {
        Bench b = withTarget(1, 1, 2, 5, 4);
        b.put(50, Orders.pointerWord(7, 10, 300), Orders.pointerWord(7, 9, 20), Orders.pointerWord(7, 9, 4),
            Orders.pointerWord(7, 9, 3));
        int first = Orders.byLink(Orders.TRY_READ, 0);
        b.does(6, first, Orders.indirect(Orders.own(Orders.CALL, 50)));
        Check.dueAll("1", b.fault(), 1, 7, 10, 300);
        b.does(6, first, Orders.indirect(Orders.own(Orders.CALL, 51)));
        Check.dueAll("2 ahead of 5", b.fault(), 2, 7, 9, 20);
        b.does(6, first, Orders.indirect(Orders.own(Orders.CALL, 52)));
        Check.dueAll("5 ahead of 6", b.fault(), 5, 7, 9, 4);
        b.x.flags(1, 0, 4);
        b.does(6, first, Orders.indirect(Orders.own(Orders.CALL, 52)));
        Check.dueAll("6 ahead of 8", b.fault(), 6, 7, 9, 4);
        b.does(6, first, Orders.indirect(Orders.own(Orders.CALL, 53)));
        Check.dueAll("8", b.fault(), 8, 7, 9, 3);
        b.does(0, first, Orders.byLink(Orders.CALL, 0));
        Check.dueAll("6 ahead of 7", b.fault(), 6, 0, 9, 4);
        b.x.brackets(1, 1, 2, 5, 5);
        b.does(0, first, Orders.byLink(Orders.CALL, 0));
        Check.dueAll("7", b.fault(), 7, 0, 9, 4);
        b.put(50, Orders.pointerWord(6, 9, 3), Orders.pointerWord(5, 9, 3));
        b.does(1, first, Orders.indirect(Orders.own(Orders.CALL, 50)));
        Check.dueAll("8 ahead of 9", b.fault(), 8, 6, 9, 3);
        b.does(1, first, Orders.indirect(Orders.own(Orders.CALL, 51)));
        Check.dueAll("9", b.fault(), 9, 5, 9, 3);
    }

    // "Then P7 is the place that comes behind (with the ring that was), P0 (new ring, STACK of it, 0), the place
    // (new ring, number, word)."
    private static void callPointers() {
        for (int ring = 0; ring < 8; ring++) {
            int newRing = ring / 2;
            Bench b = withTarget(4, 0, newRing, 7, 20).put(99, Orders.byLink(Orders.CALL, 1));
            b.put(0, point(0, Orders.own(0, 20)), point(1, Orders.own(0, 21)), point(6, Orders.own(0, 26)),
                point(7, Orders.own(0, 27)), Orders.own(Orders.GO, 99)).start(ring).run(6);
            Check.dueAll("the place", b.place(), newRing, 9, 5);
            Check.dueAll("P0", b.pointer(0), newRing, newRing, 0);
            Check.dueAll("P1 stays", b.pointer(1), ring, 8, 21);
            Check.dueAll("P6 stays", b.pointer(6), ring, 8, 26);
            Check.dueAll("P7, behind the last word too", b.pointer(7), ring, 8, 100);
            Check.due("calls", b.is(Bench.CALLS), 1);
            Check.due("returns", b.is(Bench.RETURNS), 0);
        }
    }

    // "21 RETURN: the POINTER WORD at the ADDRESS is read ..: its ring is not below the place's, else 10"
    private static void returnsRing() {
        for (int i = 0; i < 64; i++) {
            int ring = i / 8;
            int to = i % 8;
            Bench b = new Bench().put(50, Orders.pointerWord(to, 8, 30));
            b.does(ring, Orders.own(Orders.RETURN, 50));
            if (to < ring) {
                Check.dueAll("from " + ring + " to " + to, b.fault(), 10, ring, 8, 50);
                Check.dueAll("from " + ring + " to " + to + ", the place stays", b.place(), ring, 8, 0);
            } else {
                Check.dueAll("from " + ring + " to " + to, b.place(), to, 8, 30);
            }
            Check.due("from " + ring + " to " + to + ", returns", b.is(Bench.RETURNS), to < ring ? 0 : 1);
        }
        Bench b = new Bench().put(50, Orders.pointerWord(2, 40, 300));
        b.does(3, Orders.own(Orders.RETURN, 50));
        Check.dueAll("10 ahead of 1", b.fault(), 10, 3, 8, 50);
        b.does(3, Orders.own(Orders.RETURN, 100));
        Check.dueAll("no word to read", b.fault(), 2, 3, 8, 100);
        b.put(50, Orders.pointerWord(6, 8, 60)).put(60, Orders.pointerWord(4, 8, 30));
        b.does(3, Orders.indirect(Orders.own(Orders.RETURN, 50)));
        Check.dueAll("the ring that it was read by counts for nothing", b.place(), 4, 8, 30);
        b.x.flags(0, 0, 4);
        b.does(3, Orders.own(Orders.RETURN, 50));
        Check.dueAll("must be read", b.fault(), 3, 3, 8, 50);
    }

    // "that ring MAY execute there (1, 2, 5); the place is it"
    private static void returnMayExecute() {
        for (int to = 1; to < 8; to++) {
            Bench b = withTarget(4, 3, 5, 7, 0).put(50, Orders.pointerWord(to, 9, 19));
            b.does(1, Orders.byLink(Orders.TRY_READ, 0), Orders.own(Orders.RETURN, 50));
            if (to >= 3 && to <= 5) {
                Check.dueAll("to ring " + to, b.place(), to, 9, 19);
            } else {
                Check.dueAll("to ring " + to, b.fault(), 5, to, 9, 19);
            }
        }
        Bench b = withTarget(3, 0, 7, 7, 20);
        b.put(50, Orders.pointerWord(7, 9, 20), Orders.pointerWord(7, 10, 20), Orders.pointerWord(7, 9, 19));
        int[][] due = {{2, 7, 9, 20}, {1, 7, 10, 20}, {5, 7, 9, 19}};
        for (int i = 0; i < due.length; i++) {
            b.does(1, Orders.byLink(Orders.TRY_READ, 0), Orders.own(Orders.RETURN, 50 + i));
            Check.dueAll("refused " + i, b.fault(), due[i]);
            Check.dueAll("refused " + i + ", the place stays", b.place(), 1, 8, 1);
            Check.dueAll("refused " + i + ", pointers stay", b.pointer(3), 1, 0, 0);
            Check.due("refused " + i + ", returns", b.is(Bench.RETURNS), 0);
        }
    }

    // "each POINTER whose ring is lower has that ring now"
    private static void returnRaisesPointers() {
        for (int to = 0; to < 8; to++) {
            Bench b = new Bench().put(70, Orders.pointerWord(to, 8, 40));
            for (int n = 0; n < 8; n++) {
                b.put(n, point(n, Orders.indirect(Orders.own(0, 50 + n))));
                b.put(50 + n, Orders.pointerWord(n * 3 % 8, 20 + n, 60 + n));
            }
            b.put(8, Orders.own(Orders.RETURN, 70)).start(0).run(9);
            Check.dueAll("the place", b.place(), to, 8, 40);
            for (int n = 0; n < 8; n++) {
                Check.dueAll("P" + n + " to " + to, b.pointer(n), Math.max(to, n * 3 % 8), 20 + n, 60 + n);
            }
        }
    }

    // "(bit 31 counts for nothing)"
    private static void returnBit31() {
        Bench b = new Bench().put(50, Orders.again(Orders.pointerWord(5, 8, 60)), 0).put(60, -1);
        b.does(3, Orders.own(Orders.RETURN, 50));
        Check.dueAll("the place", b.place(), 5, 8, 60);
        b.put(50, Orders.again(Orders.pointerWord(2, 8, 60)));
        b.does(3, Orders.own(Orders.RETURN, 50));
        Check.dueAll("nor for the ring", b.fault(), 10, 3, 8, 50);
    }

    // "22 TRY READ ..: the CONDITION is 0 if that could be done at the ADDRESS, else 1."
    private static void tryRead() {
        for (int flags = 1; flags < 8; flags++) {
            for (int ring = 0; ring < 8; ring++) {
                Bench b = withTarget(flags, 2, 4, 6, 0);
                b.does(ring, Orders.immediate(Orders.COMPARE, 9), Orders.byLink(Orders.TRY_READ, 0));
                boolean may = (flags & 1) != 0 && ring <= 4;
                Check.due("flags " + flags + " ring " + ring, b.is(Bench.CONDITION), may ? 0 : 1);
                Check.due("no fault", b.is(Bench.FAULTS), 0);
            }
        }
        dueOfTry(Orders.TRY_READ);
    }

    // "23 TRY WRITE: the CONDITION is 0 if that could be done at the ADDRESS, else 1."
    private static void tryWrite() {
        for (int flags = 1; flags < 8; flags++) {
            for (int ring = 0; ring < 8; ring++) {
                Bench b = withTarget(flags, 2, 4, 6, 0);
                b.x.word(1, 4, 77);
                b.does(ring, Orders.immediate(Orders.LOAD, 5), Orders.byLink(Orders.TRY_WRITE, 0));
                boolean may = (flags & 2) != 0 && ring <= 2;
                Check.due("flags " + flags + " ring " + ring, b.is(Bench.CONDITION), may ? 0 : 1);
                Check.due("no fault", b.is(Bench.FAULTS), 0);
                Check.due("nothing is written", b.x.stored(1, 4), 77);
            }
        }
        dueOfTry(Orders.TRY_WRITE);
    }

    private static void dueOfTry(int op) {
        int[][] cases = {{-32768, 1}, {-1, 1}, {0, 0}, {99, 0}, {100, 1}, {32767, 1}};
        for (int[] c : cases) {
            Bench b = new Bench();
            b.does(0, Orders.own(op, c[0]));
            Check.due("op " + op + " of word " + c[0], b.is(Bench.CONDITION), c[1]);
            Check.due("op " + op + " of word " + c[0] + ", no fault", b.is(Bench.FAULTS), 0);
        }
        Bench b = new Bench().put(50, Orders.pointerWord(0, 9, 0), Orders.pointerWord(0, 7, 63));
        b.does(0, Orders.indirect(Orders.own(op, 50)));
        Check.due("op " + op + " of what is not known", b.is(Bench.CONDITION), 1);
        b.does(0, Orders.indirect(Orders.own(op, 51)));
        Check.due("op " + op + " of a stack", b.is(Bench.CONDITION), 0);
        b.does(0, Orders.immediate(Orders.LOAD, 6), Orders.own(op, 100));
        Check.dueAll("op " + op + " leaves the rest", b.registers(), 6, 0, 0, 0, 1);
        b.does(0, Orders.indirect(Orders.own(op, 100)));
        Check.dueAll("op " + op + ", no pointer word", b.fault(), 2, 0, 8, 100);
        b.does(0, Orders.byLink(op, 0));
        Check.dueAll("op " + op + ", no link", b.fault(), 12, 0, 8, 0);
    }

    // "24 SAY, in ring 0 (else 14): A is said."
    private static void sayInRing0() {
        for (int ring = 0; ring < 8; ring++) {
            for (int a : new int[] {MIN, -1, 0, 1, MAX}) {
                Bench b = new Bench().put(50, a);
                b.does(ring, Orders.own(Orders.LOAD, 50), Orders.own(Orders.SAY, 0));
                Check.due("ring " + ring + ", how many", b.x.sayings(), ring == 0 ? 1 : 0);
                Check.due("ring " + ring + ", what", b.x.said(0), ring == 0 ? a : 0);
                if (ring != 0) {
                    Check.dueAll("ring " + ring, b.fault(), 14, ring, 8, 1);
                }
            }
        }
    }
}
