/** Promises 1 to 7 and 14: the list of segments, and what is refused of it. */
public final class SegmentsTest {
    private static final int NONE = RingWarden.NONE;

    public static void main(String[] args) {
        newObject();
        segments();
        brackets();
        flags();
        words();
        definitions();
        links();
        Check.finish();
    }

    private static void newObject() {
        Counted x = new Counted();
        Check.due("1 stored", x.stored(0, 0), 0);
        Check.due("1 word", x.word(0, 0, 1), false);
        Check.due("1 start", x.start(0, 0, 0, 0), false);
        for (int p = -1; p <= 4; p++) {
            Check.due("1 state", x.state(p, 0), 0);
            Check.due("1 state ring", x.state(p, 1), 0);
            Check.due("1 state knows", x.state(p, 16), 0);
            Check.due("1 run", x.run(p, 1), NONE);
            Check.due("1 known", x.known(p, 0), NONE);
            Check.due("1 peek", x.peek(p, 0, 0), 0);
            Check.due("1 pointer", x.pointer(p, 0, 0), NONE);
            Check.due("1 may", x.may(p, 0, 0, 0), NONE);
        }
        Check.due("1 sayings", x.sayings(), 0);
        Check.due("1 said", x.said(0), 0);
        Check.due("1 first segment", x.segment(0, 1), 0);
        Check.due("NONE", RingWarden.NONE, -1);
    }

    private static void segments() {
        Counted x = new Counted();
        Check.due("2 no words", x.segment(5, 0), NONE);
        Check.due("2 words below 0", x.segment(5, -1), NONE);
        Check.due("2 least words", x.segment(5, Integer.MIN_VALUE), NONE);
        Check.due("2 too many words", x.segment(5, 257), NONE);
        Check.due("2 most words", x.segment(5, Integer.MAX_VALUE), NONE);
        Check.due("2 one word", x.segment(5, 1), 0);
        Check.due("2 the same name", x.segment(5, 2), NONE);
        Check.due("2 name below 0", x.segment(-5, 256), 1);
        Check.due("2 least name", x.segment(Integer.MIN_VALUE, 3), 2);
        Check.due("2 name 0", x.segment(0, 3), 3);
        for (int i = 4; i < 32; i++) {
            Check.due("2 more", x.segment(1000 + i, 1), i);
        }
        Check.due("2 the 33rd", x.segment(2000, 1), NONE);
        Check.due("2 words of 0", x.word(0, 1, 7), false);
        Check.due("2 words of 1", x.word(1, 255, 7), true);
        Check.due("2 the last", x.word(31, 0, 7), true);
        Check.due("2 behind the last", x.word(32, 0, 7), false);
    }

    private static int[] rights(Counted x, int number) {
        int[] rights = new int[3];
        for (int how = 0; how < 3; how++) {
            for (int ring = 0; ring < 8; ring++) {
                rights[how] |= x.may(0, ring, number, how) << ring;
            }
        }
        return rights;
    }

    private static void brackets() {
        Counted x = new Counted();
        x.segment(1, 10);
        x.flags(0, 0, 7);
        x.start(0, 0, 0, 0);
        Check.dueAll("3 at first 0 0 0", rights(x, 8), 1, 1, 1);
        Check.due("3", x.brackets(0, 2, 4, 6, 10), true);
        Check.dueAll("3 rights", rights(x, 8), 0b11111, 0b111, 0b11100);
        Check.due("3 R1 above R2", x.brackets(0, 5, 4, 6, 0), false);
        Check.due("3 R2 above R3", x.brackets(0, 2, 7, 6, 0), false);
        Check.due("3 R1 below 0", x.brackets(0, -1, 7, 7, 0), false);
        Check.due("3 R3 8", x.brackets(0, 0, 7, 8, 0), false);
        Check.due("3 all 8", x.brackets(0, 8, 8, 8, 0), false);
        Check.due("3 gates below 0", x.brackets(0, 0, 7, 7, -1), false);
        Check.due("3 gates above its words", x.brackets(0, 0, 7, 7, 11), false);
        Check.due("3 no such segment", x.brackets(1, 0, 7, 7, 0), false);
        Check.due("3 segment below 0", x.brackets(-1, 0, 7, 7, 0), false);
        Check.dueAll("3 refused does nothing", rights(x, 8), 0b11111, 0b111, 0b11100);
        Check.due("3 all alike", x.brackets(0, 7, 7, 7, 0), true);
        Check.dueAll("3 all alike, rights", rights(x, 8), 255, 255, 128);
    }

    private static void flags() {
        Counted x = new Counted();
        x.segment(1, 10);
        x.start(0, 0, 0, 0);
        x.start(3, 0, 0, 0);
        Check.due("4 at first none", x.may(0, 0, 8, 0), 0);
        int[][] due = {{0, 0, 0}, {1, 0, 0}, {0, 1, 0}, {1, 1, 0}, {0, 0, 1}, {1, 0, 1}, {0, 1, 1}, {1, 1, 1}};
        for (int flags = 0; flags < 8; flags++) {
            Check.due("4", x.flags(0, 3, flags), true);
            for (int how = 0; how < 3; how++) {
                Check.due("4 flags " + flags + " how " + how, x.may(3, 0, 8, how), due[flags][how]);
                Check.due("4 another user", x.may(0, 0, 8, how), 0);
            }
        }
        Check.due("4 flags 8", x.flags(0, 3, 8), false);
        Check.due("4 flags -1", x.flags(0, 3, -1), false);
        Check.due("4 user 4", x.flags(0, 4, 0), false);
        Check.due("4 user -1", x.flags(0, -1, 0), false);
        Check.due("4 no such segment", x.flags(1, 3, 0), false);
        Check.due("4 segment below 0", x.flags(-1, 3, 0), false);
        Check.due("4 refused does nothing", x.may(3, 0, 8, 2), 1);
    }

    private static void words() {
        Counted x = new Counted();
        x.segment(1, 3);
        Check.due("5 0 at first", x.stored(0, 2), 0);
        Check.due("5 word", x.word(0, 2, Integer.MIN_VALUE), true);
        Check.due("5 word 0", x.word(0, 0, 77), true);
        Check.due("14 stored", x.stored(0, 2), Integer.MIN_VALUE);
        Check.due("14 stored 0", x.stored(0, 0), 77);
        Check.due("14 stored between", x.stored(0, 1), 0);
        Check.due("5 behind", x.word(0, 3, 1), false);
        Check.due("5 ahead", x.word(0, -1, 1), false);
        Check.due("5 no segment", x.word(1, 0, 1), false);
        Check.due("5 segment below 0", x.word(-1, 0, 1), false);
        Check.due("14 behind", x.stored(0, 3), 0);
        Check.due("14 ahead", x.stored(0, -1), 0);
        Check.due("14 no segment", x.stored(1, 0), 0);
        Check.due("14 segment below 0", x.stored(-1, 0), 0);
    }

    private static void definitions() {
        Bench b = new Bench();
        int s = b.other(7, 1, 7, 7, 7, 0);
        Check.due("6", b.x.define(s, -9, 19), true);
        Check.due("6 the same symbol", b.x.define(s, -9, 3), false);
        Check.due("6 no such word", b.x.define(s, 50, 20), false);
        Check.due("6 word below 0", b.x.define(s, 50, -1), false);
        Check.due("6 no such segment", b.x.define(s + 1, 50, 0), false);
        Check.due("6 segment below 0", b.x.define(-1, 50, 0), false);
        Check.due("6 of another segment", b.x.define(0, -9, 5), true);
        for (int i = 1; i < 16; i++) {
            Check.due("6 more", b.x.define(s, i, 1), true);
        }
        Check.due("6 the 17th", b.x.define(s, 16, 1), false);
        b.x.word(s, 19, 1234);
        b.x.link(0, 0, 7, -9);
        b.does(4, Orders.byLink(Orders.LOAD, 0));
        Check.due("6 the word that is defined", b.is(Bench.A), 1234);
        b.x.link(0, 0, 7, 50);
        b.does(4, Orders.byLink(Orders.LOAD, 0));
        Check.due("6 refused does nothing", b.is(Bench.KIND), 12);
        b.x.link(0, 0, 7, 16);
        b.does(4, Orders.byLink(Orders.LOAD, 0));
        Check.due("6 the 17th is not there", b.is(Bench.KIND), 12);
    }

    private static void links() {
        Counted x = new Counted();
        x.segment(1, 3);
        Check.due("7 first", x.link(0, 0, Integer.MIN_VALUE, Integer.MAX_VALUE), true);
        Check.due("7 last", x.link(0, 15, 0, 0), true);
        Check.due("7 behind", x.link(0, 16, 0, 0), false);
        Check.due("7 ahead", x.link(0, -1, 0, 0), false);
        Check.due("7 no segment", x.link(1, 0, 0, 0), false);
        Check.due("7 segment below 0", x.link(-1, 0, 0, 0), false);
        Check.due("7 in place of what was", x.link(0, 0, 1, 1), true);
    }
}
