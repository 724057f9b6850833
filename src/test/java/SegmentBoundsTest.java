/**
 * The boundaries of part 1 of the terms and of promises 1 to 7 and 14: a method for each sentence that names one,
 * with the sentence above it.
 */
public final class SegmentBoundsTest {
    private static final int NONE = RingWarden.NONE;
    private static final int MIN = Integer.MIN_VALUE;
    private static final int MAX = Integer.MAX_VALUE;

    public static void main(String[] args) {
        numbered();
        names();
        countOfWords();
        wordsOf32Bits();
        bracketsAtFirst();
        gatesAtFirst();
        gatesFrom0On();
        flagsAtFirst();
        upTo16Definitions();
        links0To15();
        linksOrNone();
        processIsItsUsers();
        stackNumbers();
        stackWords();
        stacksInNoList();
        stackFlagsAndBrackets();
        stacksAreNotExecuted();
        knownInOrder();
        mayReadWriteExecute();
        newObject();
        segmentRefused();
        bracketsAsTold();
        gatesAsTold();
        bracketsNoSuchSegment();
        flagsRefused();
        wordRefused();
        defineRefused();
        linkRefused();
        linkInPlaceOfWhatWas();
        linkedStaysSo();
        storedWhereThereIsNone();
        Check.finish();
    }

    // "SEGMENTS, numbered 0 to 31 in the order in which they're made"
    private static void numbered() {
        Counted x = new Counted();
        for (int s = 0; s < 32; s++) {
            Check.due("a refused one takes no number", x.segment(s - 1, s % 2 == 0 ? 0 : 1), NONE);
            Check.due("the next number", x.segment(s, s + 1), s);
            Check.due("its last word", x.word(s, s, 1000 + s), true);
            Check.due("none behind it", x.word(s, s + 1, 1), false);
        }
        for (int s = 0; s < 32; s++) {
            Check.due("each has its own words", x.stored(s, s), 1000 + s);
        }
    }

    // "each with a NAME (a number)"
    private static void names() {
        int[] names = {0, -1, 1, MIN, MAX, 65536, -65536, 255, 256};
        Counted x = new Counted();
        for (int i = 0; i < names.length; i++) {
            Check.due("name " + names[i], x.segment(names[i], 4), i);
        }
        for (int name : names) {
            Check.due("name " + name + " again", x.segment(name, 4), NONE);
        }
    }

    // "1 to 256 WORDS", "words is outside"
    private static void countOfWords() {
        for (int words : new int[] {MIN, -256, -1, 0, 257, 258, 512, 65536, 65537, MAX}) {
            Counted x = new Counted();
            Check.due(words + " words", x.segment(1, words), NONE);
            Check.due(words + " words, nothing is made", x.word(0, 0, 1), false);
            Check.due(words + " words, the name is free", x.segment(1, 1), 0);
        }
        for (int words : new int[] {1, 2, 63, 64, 65, 255, 256}) {
            Counted x = new Counted();
            Check.due(words + " words", x.segment(1, words), 0);
            Check.due(words + " words, the last", x.word(0, words - 1, 5), true);
            Check.due(words + " words, behind the last", x.word(0, words, 5), false);
        }
    }

    // "WORDS (32 bits, 0 at first)"
    private static void wordsOf32Bits() {
        Counted x = new Counted();
        x.segment(1, 256);
        for (int k = 0; k < 256; k++) {
            Check.due("0 at first", x.stored(0, k), 0);
        }
        for (int v : new int[] {MIN, -65537, -1, 1, 65535, 65536, MAX}) {
            x.word(0, 255, v);
            Check.due("32 bits", x.stored(0, 255), v);
        }
        Check.due("the one ahead of it stays", x.stored(0, 254), 0);
    }

    // "BRACKETS .. at first 0 0 0"
    private static void bracketsAtFirst() {
        Counted x = new Counted();
        x.segment(1, 10);
        x.flags(0, 0, 7);
        x.start(0, 0, 0, 0);
        for (int how = 0; how < 3; how++) {
            Check.due("R1 and R2, ring 0 how " + how, x.may(0, 0, 8, how), 1);
            Check.due("R1 and R2, ring 1 how " + how, x.may(0, 1, 8, how), 0);
        }
        x.word(0, 0, Orders.indirect(Orders.own(Orders.CALL, 1)));
        x.word(0, 1, Orders.pointerWord(1, 8, 5));
        x.run(0, 1);
        Check.due("R3: ring 1 can't call", x.state(0, Bench.KIND), 8);
    }

    // "GATES (.. at first 0)"
    private static void gatesAtFirst() {
        Bench b = new Bench();
        int s = b.x.segment(7, 10);
        b.x.flags(s, 0, 7);
        b.x.define(s, 1, 0);
        b.x.link(0, 0, 7, 1);
        b.does(0, Orders.byLink(Orders.CALL, 0));
        Check.dueAll("no gate at first", b.fault(), 6, 0, 9, 0);
    }

    // "GATES (how many of its words, from 0 on ..)"
    private static void gatesFrom0On() {
        for (int gates : new int[] {0, 1, 2, 19, 20}) {
            for (int word = 0; word < 20; word++) {
                Bench b = new Bench();
                int s = b.other(7, 4, 0, 7, 7, gates);
                b.x.define(s, 1, word);
                b.x.link(0, 0, 7, 1);
                b.does(3, Orders.byLink(Orders.CALL, 0));
                Check.due(gates + " gates, word " + word, b.is(Bench.KIND), word < gates ? 0 : 6);
            }
        }
    }

    // "FLAGS for each of four USERS (.. at first 0)"
    private static void flagsAtFirst() {
        Counted x = new Counted();
        x.segment(1, 10);
        for (int p = 0; p < 4; p++) {
            x.start(p, 0, 0, 0);
            for (int how = 0; how < 3; how++) {
                Check.due("user " + p + " how " + how, x.may(p, 0, 8, how), 0);
            }
        }
        for (int p = 0; p < 4; p++) {
            x.flags(0, p, 1 + p);
        }
        for (int p = 0; p < 4; p++) {
            int rights = x.may(p, 0, 8, 0) + 2 * x.may(p, 0, 8, 1) + 4 * x.may(p, 0, 8, 2);
            Check.due("each user has its own", rights, 1 + p);
        }
    }

    // "up to 16 DEFINITIONS (a SYMBOL, a number, for one of its words)", "16 are there"
    private static void upTo16Definitions() {
        int[] symbols = {MIN, -1, 0, 1, MAX, 65536, 10, 11, 12, 13, 14, 15, 16, 17, 18, 19};
        Bench b = new Bench();
        int s = b.other(7, 1, 0, 7, 7, 0);
        for (int i = 0; i < 16; i++) {
            Check.due("definition " + i, b.x.define(s, symbols[i], 19 - i), true);
        }
        Check.due("the 17th", b.x.define(s, 999, 0), false);
        for (int i = 0; i < 16; i++) {
            b.x.link(0, i, 7, symbols[i]);
            b.does(3, Orders.of(1, Orders.byLink(Orders.WORD_X, i)));
            Check.due("the word of symbol " + symbols[i], b.is(Bench.X1), 19 - i);
        }
        b.x.link(0, 0, 7, 999);
        b.does(3, Orders.byLink(Orders.LOAD, 0));
        Check.due("the 17th is not there", b.is(Bench.KIND), 12);
    }

    // "LINKS 0 to 15 (a NAME and a SYMBOL each ..)"
    private static void links0To15() {
        Bench b = new Bench();
        int s = b.other(7, 1, 0, 7, 7, 0);
        for (int k = 0; k < 16; k++) {
            b.x.define(s, 500 + k, k + 2);
            Check.due("link " + k, b.x.link(0, k, 7, 500 + k), true);
        }
        for (int k = 0; k < 16; k++) {
            b.does(3, Orders.of(1, Orders.byLink(Orders.POINT, k)));
            Check.dueAll("link " + k + " is its own", b.pointer(1), 3, 9, k + 2);
        }
        Check.due("link 16", b.x.link(0, 16, 7, 500), false);
        Check.due("link -1", b.x.link(0, -1, 7, 500), false);
    }

    // "LINKS 0 to 15 (.., or none)"
    private static void linksOrNone() {
        Bench b = new Bench();
        b.x.segment(0, 10);
        b.x.flags(1, 0, 7);
        b.x.define(1, 0, 0);
        b.put(0, 0).start(3);
        for (int k = 0; k < 16; k++) {
            b.does(3, Orders.byLink(Orders.LOAD, k));
            Check.dueAll("link " + k + ", none at first", b.fault(), 12, 3, 8, k);
            Check.due("link " + k + ", nothing is known by it", b.is(Bench.KNOWS), 9);
        }
    }

    // "PROCESS p (0 to 3) is USER p's."
    private static void processIsItsUsers() {
        for (int p = 0; p < 4; p++) {
            Bench b = new Bench(p);
            for (int q = 0; q < 4; q++) {
                b.x.start(q, 0, 0, 3);
                b.x.run(q, 1);
                boolean own = q == p;
                Check.due("process " + q + " of user " + p, b.x.state(q, 0), own ? Bench.HALTED : Bench.FAULTED);
                Check.due("process " + q + " may execute", b.x.may(q, 3, 8, 2), own ? 1 : 0);
                Check.due("process " + q + ", its stack", b.x.may(q, 3, 3, 1), 1);
            }
        }
    }

    // "It KNOWS segments by numbers of its own: 0 to 7 its STACKS"
    private static void stackNumbers() {
        for (int p = 0; p < 4; p++) {
            Bench b = new Bench(p).start(5);
            for (int k = 0; k < 8; k++) {
                Check.due("stack " + k, b.x.known(p, k), -2);
            }
            Check.due("8 is no stack", b.x.known(p, 8), 0);
            Check.due("-1 is no stack", b.x.known(p, -1), NONE);
        }
    }

    // "STACKS, 64 words each"
    private static void stackWords() {
        for (int k = 0; k < 8; k++) {
            Bench b = new Bench();
            b.put(50, Orders.pointerWord(0, k, 63), Orders.pointerWord(0, k, 64), Orders.pointerWord(0, k, 0));
            b.does(0, Orders.immediate(Orders.LOAD, 5), Orders.indirect(Orders.own(Orders.STORE, 50)),
                Orders.indirect(Orders.own(Orders.STORE, 52)), Orders.indirect(Orders.own(Orders.STORE, 51)));
            Check.dueAll("stack " + k + ", behind its last word", b.fault(), 2, 0, k, 64);
            Check.due("stack " + k + ", its last word", b.x.peek(0, k, 63), 5);
            Check.due("stack " + k + ", its first word", b.x.peek(0, k, 0), 5);
            Check.due("stack " + k + ", between", b.x.peek(0, k, 62), 0);
            Check.due("stack " + k + ", peek behind", b.x.peek(0, k, 64), 0);
        }
    }

    // "its STACKS .. that are in no list"
    private static void stacksInNoList() {
        Bench b = new Bench().start(4);
        b.x.start(1, 0, 0, 4);
        for (int s : new int[] {-2, 1, 2, 7, 8}) {
            Check.due("word", b.x.word(s, 0, 1), false);
            Check.due("flags", b.x.flags(s, 0, 7), false);
            Check.due("brackets", b.x.brackets(s, 0, 0, 0, 0), false);
            Check.due("define", b.x.define(s, 0, 0), false);
            Check.due("link", b.x.link(s, 0, 0, 0), false);
            Check.due("start", b.x.start(2, s, 0, 0), false);
            Check.due("handler", b.x.handler(0, s, 0), NONE);
        }
        b.x.link(0, 0, 0, 0);
        b.x.link(0, 1, -2, 0);
        b.does(4, Orders.byLink(Orders.LOAD, 0));
        Check.due("no name 0", b.is(Bench.KIND), 12);
        b.does(4, Orders.byLink(Orders.LOAD, 1));
        Check.due("no name -2", b.is(Bench.KIND), 12);
        for (int s = 1; s < 32; s++) {
            Check.due("they take no number", b.x.segment(s, 1), s);
        }
    }

    // "of STACK k FLAGS 3, BRACKETS k k k"
    private static void stackFlagsAndBrackets() {
        for (int p = 0; p < 4; p++) {
            Bench b = new Bench(p).start(4);
            for (int i = 0; i < 64; i++) {
                int k = i / 8;
                int ring = i % 8;
                Check.due("read stack " + k + " in ring " + ring, b.x.may(p, ring, k, 0), ring <= k ? 1 : 0);
                Check.due("write stack " + k + " in ring " + ring, b.x.may(p, ring, k, 1), ring <= k ? 1 : 0);
                Check.due("execute stack " + k + " in ring " + ring, b.x.may(p, ring, k, 2), 0);
            }
        }
    }

    // "of STACK k FLAGS 3, .. no GATES"
    private static void stacksAreNotExecuted() {
        for (int k = 0; k < 8; k++) {
            Bench b = new Bench().put(50, Orders.pointerWord(0, k, 0));
            b.does(0, Orders.indirect(Orders.own(Orders.CALL, 50)));
            Check.dueAll("CALL of stack " + k, b.fault(), 5, 0, k, 0);
            b.does(0, Orders.indirect(Orders.own(Orders.GO, 50)));
            Check.dueAll("GO to stack " + k, b.fault(), 5, 0, k, 0);
            b.does(0, Orders.own(Orders.RETURN, 50));
            Check.dueAll("RETURN to stack " + k, b.fault(), 5, 0, k, 0);
        }
    }

    // "from 8 on the segments that it came to know, in that order, each once"
    private static void knownInOrder() {
        Counted x = new Counted();
        for (int s = 0; s < 32; s++) {
            x.segment(s, 1);
        }
        x.start(2, 13, 0, 0);
        for (int i = 0; i < 32; i++) {
            int s = (13 + 5 * i) % 32;
            Check.due("the next number", x.handler(2, s, 0), 8 + i);
            Check.due("each once", x.handler(2, s, 1), 8 + i);
            Check.due("known by it", x.known(2, 8 + i), s);
            Check.due("none behind it", x.known(2, 9 + i), NONE);
        }
        Check.due("all of them", x.state(2, Bench.KNOWS), 40);
        Check.due("the first one again", x.handler(2, 13, 0), 8);
        Check.due("still all of them", x.state(2, Bench.KNOWS), 40);
    }

    // "A ring e MAY read a segment if it has flag 1 and e is at most R2; write: flag 2, e at most R1;
    // execute: flag 4, e from R1 to R2."
    private static void mayReadWriteExecute() {
        for (int i = 0; i < 512; i++) {
            int r1 = i / 64;
            int r2 = i / 8 % 8;
            int r3 = i % 8;
            if (r1 > r2 || r2 > r3) {
                continue;
            }
            Counted x = new Counted();
            x.segment(1, 10);
            x.brackets(0, r1, r2, r3, 0);
            x.start(1, 0, 0, 0);
            for (int flags = 0; flags < 8; flags++) {
                x.flags(0, 1, flags);
                String of = "brackets " + r1 + " " + r2 + " " + r3 + " flags " + flags + " ring ";
                for (int e = 0; e < 8; e++) {
                    Check.due(of + e + " read", x.may(1, e, 8, 0) == 1, (flags & 1) != 0 && e <= r2);
                    Check.due(of + e + " write", x.may(1, e, 8, 1) == 1, (flags & 2) != 0 && e <= r1);
                    Check.due(of + e + " execute", x.may(1, e, 8, 2) == 1, (flags & 4) != 0 && e >= r1 && e <= r2);
                }
            }
        }
    }

    // Promise 1: "No segments, no processes."
    private static void newObject() {
        Counted x = new Counted();
        for (int s = -2; s <= 32; s++) {
            Check.due("no segment: word", x.word(s, 0, 1), false);
            Check.due("no segment: brackets", x.brackets(s, 0, 0, 0, 0), false);
            Check.due("no segment: flags", x.flags(s, 0, 0), false);
            Check.due("no segment: define", x.define(s, 0, 0), false);
            Check.due("no segment: link", x.link(s, 0, 0, 0), false);
            Check.due("no segment: start", x.start(0, s, 0, 0), false);
            Check.due("no segment: stored", x.stored(s, 0), 0);
        }
        Check.due("the first", x.segment(3, 1), 0);
        for (int p = 0; p < 4; p++) {
            for (int what = 0; what < 19; what++) {
                Check.due("no process: state", x.state(p, what), 0);
            }
            Check.due("no process: run", x.run(p, 0), NONE);
            Check.due("no process: handler", x.handler(p, 0, 0), NONE);
            Check.due("no process: pointer", x.pointer(p, 0, 0), NONE);
            Check.due("no process: known", x.known(p, 0), NONE);
            Check.due("no process: peek", x.peek(p, 0, 0), 0);
            Check.due("no process: may", x.may(p, 0, 0, 0), NONE);
        }
        Check.due("nothing said", x.sayings(), 0);
        Check.due("none said", x.said(0), 0);
    }

    // Promise 2: "NONE, doing nothing: 32 are there, words is outside, or one has that name."
    private static void segmentRefused() {
        Counted x = new Counted();
        for (int s = 0; s < 31; s++) {
            x.segment(s, 2);
        }
        Check.due("one has that name, the first", x.segment(0, 2), NONE);
        Check.due("one has that name, the last", x.segment(30, 2), NONE);
        Check.due("one has that name, other words", x.segment(30, 256), NONE);
        Check.due("its words stay", x.word(30, 2, 1), false);
        Check.due("no word", x.segment(77, 0), NONE);
        Check.due("257 words", x.segment(77, 257), NONE);
        Check.due("the 32nd", x.segment(77, 256), 31);
        Check.due("the 33rd", x.segment(78, 1), NONE);
        Check.due("and again", x.segment(79, 256), NONE);
        Check.due("number 32 is not there", x.word(32, 0, 1), false);
    }

    // Promise 3: "False, doing nothing: .. they aren't as told" ("rings 0 to 7, R1 at most R2, R2 at most R3")
    private static void bracketsAsTold() {
        int[] rings = {MIN, -1, 0, 1, 3, 4, 7, 8, MAX};
        for (int r1 : rings) {
            for (int r2 : rings) {
                Counted x = new Counted();
                x.segment(1, 4);
                x.flags(0, 0, 7);
                x.start(0, 0, 0, 0);
                for (int r3 : rings) {
                    x.brackets(0, 5, 6, 6, 0);
                    boolean told = r1 >= 0 && r1 <= r2 && r2 <= r3 && r3 <= 7;
                    String of = "brackets " + r1 + " " + r2 + " " + r3;
                    Check.due(of, x.brackets(0, r1, r2, r3, 0), told);
                    for (int ring = 0; ring < 8; ring++) {
                        int low = told ? r1 : 5;
                        int middle = told ? r2 : 6;
                        Check.due(of + ", ring " + ring, x.may(0, ring, 8, 2) == 1, ring >= low && ring <= middle);
                    }
                }
            }
        }
    }

    // Promise 3: "gates is below 0 or above its words"
    private static void gatesAsTold() {
        for (int words : new int[] {1, 20, 256}) {
            Counted x = new Counted();
            x.segment(1, words);
            x.flags(0, 0, 7);
            x.start(0, 0, 0, 0);
            Check.due("no gates", x.brackets(0, 1, 2, 3, 0), true);
            Check.due("all words", x.brackets(0, 1, 2, 3, words), true);
            for (int gates : new int[] {MIN, -1, words + 1, 257, MAX}) {
                Check.due(gates + " gates of " + words, x.brackets(0, 4, 5, 6, gates), false);
                Check.due("the brackets stay", x.may(0, 3, 8, 0), 0);
                Check.due("the brackets stay", x.may(0, 2, 8, 0), 1);
            }
        }
        Bench b = new Bench();
        int s = b.other(7, 4, 0, 7, 7, 1);
        b.x.define(s, 1, 0);
        b.x.define(s, 2, 1);
        b.x.link(0, 0, 7, 1);
        b.x.link(0, 1, 7, 2);
        b.x.brackets(s, 0, 7, 7, 21);
        b.x.brackets(s, 0, 7, 7, -1);
        b.x.brackets(s, 5, 4, 7, 0);
        b.does(3, Orders.byLink(Orders.CALL, 0));
        Check.due("the gate stays", b.is(Bench.KIND), 0);
        b.does(3, Orders.byLink(Orders.CALL, 1));
        Check.due("no gate more", b.is(Bench.KIND), 6);
    }

    // Promise 3: "no such segment"
    private static void bracketsNoSuchSegment() {
        Bench b = new Bench();
        b.other(7, 7, 0, 7, 7, 0);
        for (int s : new int[] {MIN, -1, 2, 3, 31, 32, MAX}) {
            Check.due("brackets of " + s, b.x.brackets(s, 1, 1, 1, 0), false);
        }
        b.start(0);
        b.x.handler(0, 1, 0);
        for (int number = 8; number < 10; number++) {
            Check.due("those that are there stay", b.x.may(0, 7, number, 2), 1);
        }
        Check.due("the last", b.x.brackets(1, 1, 1, 1, 0), true);
        Check.due("is the one", b.x.may(0, 7, 9, 2), 0);
        Check.due("the first stays", b.x.may(0, 7, 8, 2), 1);
    }

    // Promise 4: "FLAGS (0 to 7) of segment s for a USER. False, doing nothing: none such."
    private static void flagsRefused() {
        Counted x = new Counted();
        x.segment(1, 4);
        for (int p = 0; p < 4; p++) {
            x.start(p, 0, 0, 0);
            Check.due("all flags", x.flags(0, p, 7), true);
        }
        for (int flags : new int[] {MIN, -8, -1, 8, 9, 15, 16, MAX}) {
            Check.due("flags " + flags, x.flags(0, 1, flags), false);
        }
        for (int user : new int[] {MIN, -1, 4, 5, MAX}) {
            Check.due("user " + user, x.flags(0, user, 0), false);
        }
        for (int s : new int[] {MIN, -1, 1, 32, MAX}) {
            Check.due("segment " + s, x.flags(s, 1, 0), false);
        }
        for (int i = 0; i < 12; i++) {
            Check.due("they stay", x.may(i / 3, 0, 8, i % 3), 1);
        }
        Check.due("no flags", x.flags(0, 3, 0), true);
        Check.due("none any more", x.may(3, 0, 8, 0), 0);
        Check.due("of the others yes", x.may(2, 0, 8, 0), 1);
    }

    // Promise 5: "Word k of segment s becomes v. False, doing nothing: none such."
    private static void wordRefused() {
        Counted x = new Counted();
        x.segment(1, 1);
        x.segment(2, 256);
        Check.due("the only word", x.word(0, 0, 9), true);
        Check.due("the last word", x.word(1, 255, 8), true);
        Check.due("the first word", x.word(1, 0, 7), true);
        for (int k : new int[] {MIN, -256, -1, 1, 255, 256, MAX}) {
            Check.due("word " + k + " of 1", x.word(0, k, 5), false);
        }
        for (int k : new int[] {MIN, -1, 256, 257, 511, MAX}) {
            Check.due("word " + k + " of 256", x.word(1, k, 5), false);
        }
        for (int s : new int[] {MIN, -2, -1, 2, 31, 32, MAX}) {
            Check.due("segment " + s, x.word(s, 0, 5), false);
        }
        Check.due("the only word stays", x.stored(0, 0), 9);
        Check.due("the last word stays", x.stored(1, 255), 8);
        Check.due("the first word stays", x.stored(1, 0), 7);
    }

    // Promise 6: "A DEFINITION more of segment s, for its word k. False, doing nothing: none such, .. or one is of
    // that SYMBOL."
    private static void defineRefused() {
        Bench b = new Bench();
        int s = b.other(7, 1, 0, 7, 7, 0);
        for (int k : new int[] {MIN, -1, 20, 21, 255, MAX}) {
            Check.due("word " + k, b.x.define(s, 5, k), false);
        }
        for (int none : new int[] {MIN, -1, 2, 31, 32, MAX}) {
            Check.due("segment " + none, b.x.define(none, 5, 0), false);
        }
        b.x.link(0, 0, 7, 5);
        b.does(3, Orders.byLink(Orders.LOAD, 0));
        Check.due("nothing is defined", b.is(Bench.KIND), 12);
        Check.due("the last word", b.x.define(s, 5, 19), true);
        Check.due("that symbol again", b.x.define(s, 5, 0), false);
        Check.due("that symbol again, for the same word", b.x.define(s, 5, 19), false);
        Check.due("that word again", b.x.define(s, 6, 19), true);
        Check.due("the first word", b.x.define(s, 4, 0), true);
        Check.due("that symbol in another segment", b.x.define(0, 5, 99), true);
        b.does(3, Orders.of(1, Orders.byLink(Orders.WORD_X, 0)));
        Check.due("the first one stays", b.is(Bench.X1), 19);
        for (int i = 3; i < 16; i++) {
            Check.due("a refused one takes no room", b.x.define(s, 100 + i, 0), true);
        }
        Check.due("16 are there", b.x.define(s, 200, 0), false);
        Check.due("16 are there, a symbol of them", b.x.define(s, 5, 0), false);
    }

    // Promise 7: "False, doing nothing: none such."
    private static void linkRefused() {
        Bench b = new Bench();
        int s = b.other(7, 1, 0, 7, 7, 0);
        b.x.define(s, 1, 3);
        b.x.link(0, 0, 7, 1);
        b.x.link(0, 15, 7, 1);
        for (int k : new int[] {MIN, -16, -1, 16, 17, 31, MAX}) {
            Check.due("link " + k, b.x.link(0, k, 99, 99), false);
        }
        for (int none : new int[] {MIN, -1, 2, 31, 32, MAX}) {
            Check.due("segment " + none, b.x.link(none, 0, 99, 99), false);
        }
        for (int k : new int[] {0, 15}) {
            b.does(3, Orders.of(1, Orders.byLink(Orders.WORD_X, k)));
            Check.due("link " + k + " stays", b.is(Bench.X1), 3);
        }
        Check.due("what nobody has can be named", b.x.link(0, 1, 99, 99), true);
    }

    // Promise 7: "LINK k of segment s (in place of what was ..)"
    private static void linkInPlaceOfWhatWas() {
        Bench b = new Bench();
        int s = b.other(7, 1, 0, 7, 7, 0);
        b.x.define(s, 1, 3);
        b.x.define(s, 2, 4);
        b.x.link(0, 5, 7, 1);
        Check.due("again", b.x.link(0, 5, 7, 2), true);
        b.does(3, Orders.of(1, Orders.byLink(Orders.WORD_X, 5)));
        Check.due("the later one", b.is(Bench.X1), 4);
        b.x.link(0, 5, 8, 2);
        b.does(3, Orders.of(1, Orders.byLink(Orders.WORD_X, 5)));
        Check.dueAll("in place of it also if it can't be linked", b.fault(), 12, 3, 8, 5);
    }

    // Promise 7: "links that are linked stay so"
    private static void linkedStaysSo() {
        Bench b = new Bench();
        int s = b.other(7, 1, 0, 7, 7, 0);
        b.x.define(s, 1, 3);
        b.x.define(s, 2, 4);
        b.x.link(0, 5, 7, 1);
        b.put(0, Orders.of(1, Orders.byLink(Orders.WORD_X, 5)), Orders.own(Orders.GO, 0)).start(3).run(2);
        b.x.link(0, 5, 7, 2);
        Check.due("linked as it was", b.run(1).is(Bench.X1), 3);
        b.x.flags(0, 1, 7);
        b.x.flags(s, 1, 1);
        b.x.start(1, 0, 0, 3);
        b.x.run(1, 1);
        Check.due("a process that had not used it", b.x.state(1, Bench.X1), 4);
        Check.due("begun anew", b.start(3).run(1).is(Bench.X1), 4);
    }

    // Promise 14: "Of segment s: word k; 0 where there is none."
    private static void storedWhereThereIsNone() {
        Counted x = new Counted();
        x.segment(1, 1);
        x.segment(2, 256);
        x.word(0, 0, 9);
        x.word(1, 0, 7);
        x.word(1, 255, 8);
        for (int k : new int[] {MIN, -256, -255, -1, 1, 2, 255, 256, MAX}) {
            Check.due("word " + k + " of 1", x.stored(0, k), 0);
        }
        for (int k : new int[] {MIN, -1, 256, 257, MAX}) {
            Check.due("word " + k + " of 256", x.stored(1, k), 0);
        }
        for (int s : new int[] {MIN, -2, -1, 2, 31, 32, MAX}) {
            Check.due("segment " + s, x.stored(s, 0), 0);
        }
        Check.due("the only word", x.stored(0, 0), 9);
        Check.due("the first word", x.stored(1, 0), 7);
        Check.due("the last word", x.stored(1, 255), 8);
    }
}
