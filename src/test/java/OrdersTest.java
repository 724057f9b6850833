/** Promise 10 (part 3 of the terms): what each op does, and which orders are none. */
public final class OrdersTest {
    public static void main(String[] args) {
        arithmetic();
        compare();
        go();
        goRefused();
        index();
        pointAndKeep();
        tries();
        lawless();
        withoutAddress();
        selfWriting();
        Check.finish();
    }

    private static void arithmetic() {
        int big = Integer.MAX_VALUE;
        int[][] cases = {
            {Orders.LOAD, 5, -3, -3}, {Orders.ADD, 5, -3, 2}, {Orders.SUB, 5, -3, 8}, {Orders.MUL, 5, -3, -15},
            {Orders.AND, 12, 10, 8}, {Orders.OR, 12, 10, 14}, {Orders.XOR, 12, 10, 6},
            {Orders.ADD, big, 1, Integer.MIN_VALUE}, {Orders.SUB, Integer.MIN_VALUE, 1, big}, {Orders.MUL, big, big, 1},
        };
        for (int[] c : cases) {
            Bench b = new Bench().put(50, c[1], c[2]);
            b.does(3, Orders.own(Orders.LOAD, 50), Orders.own(c[0], 51));
            Check.due("op " + c[0] + " of a word", b.is(Bench.A), c[3]);
            Check.dueAll("op " + c[0] + " goes on", b.place(), 3, 8, 2);
            Check.due("op " + c[0] + " has no fault", b.is(Bench.FAULTS), 0);
            if (c[2] == (short) c[2]) {
                b.does(3, Orders.own(Orders.LOAD, 50), Orders.immediate(c[0], c[2]));
                Check.due("op " + c[0] + " of an operand", b.is(Bench.A), c[3]);
            }
        }
        Bench b = new Bench().brackets(3, 7, 7, 0);
        b.does(3, Orders.immediate(Orders.LOAD, 77), Orders.own(Orders.STORE, 99));
        Check.due("2 STORE", b.x.stored(0, 99), 77);
        b.does(4, Orders.immediate(Orders.LOAD, 78), Orders.own(Orders.STORE, 99));
        Check.dueAll("2 STORE may not write", b.fault(), 4, 4, 8, 99);
        Check.due("2 STORE wrote nothing", b.x.stored(0, 99), 77);
    }

    private static void compare() {
        int[][] cases = {{1, 2, -1}, {2, 2, 0}, {3, 2, 1}, {-1, 1, -1},
            {Integer.MIN_VALUE, Integer.MAX_VALUE, -1}, {Integer.MAX_VALUE, Integer.MIN_VALUE, 1}};
        for (int[] c : cases) {
            Bench b = new Bench().put(50, c[0], c[1]);
            b.does(3, Orders.own(Orders.LOAD, 50), Orders.own(Orders.COMPARE, 51));
            Check.due("9 COMPARE " + c[0] + " " + c[1], b.is(Bench.CONDITION), c[2]);
            Check.due("9 COMPARE leaves A", b.is(Bench.A), c[0]);
        }
    }

    private static void go() {
        int[] ops = {Orders.GO, Orders.GO_ALIKE, Orders.GO_UNLIKE, Orders.GO_BELOW, Orders.GO_NOT_BELOW};
        boolean[][] goes = {
            {true, true, true}, {false, true, false}, {true, false, true}, {true, false, false}, {false, true, true}};
        for (int i = 0; i < ops.length; i++) {
            for (int condition = -1; condition <= 1; condition++) {
                Bench b = new Bench();
                b.does(3, Orders.immediate(Orders.LOAD, condition), Orders.immediate(Orders.COMPARE, 0),
                    Orders.own(ops[i], 40));
                Check.dueAll("op " + ops[i] + " at " + condition, b.place(), 3, 8, goes[i][condition + 1] ? 40 : 3);
                Check.due("op " + ops[i] + " leaves the condition", b.is(Bench.CONDITION), condition);
            }
        }
    }

    private static void goRefused() {
        Bench b = new Bench().brackets(3, 5, 7, 0);
        b.does(4, Orders.own(Orders.GO, 100));
        Check.dueAll("10 GO outside", b.fault(), 2, 4, 8, 100);
        Check.dueAll("10 GO outside, place", b.place(), 4, 8, 0);
        b.put(50, Orders.pointerWord(4, 99, 1), Orders.pointerWord(5, 8, 40), Orders.pointerWord(6, 8, 40),
            Orders.pointerWord(5, 8, 100));
        b.does(4, Orders.indirect(Orders.own(Orders.GO, 50)));
        Check.dueAll("10 GO to what is not known", b.fault(), 1, 4, 99, 1);
        b.does(4, Orders.indirect(Orders.own(Orders.GO, 51)));
        Check.dueAll("10 GO by another ring", b.fault(), 9, 5, 8, 40);
        b.does(4, Orders.indirect(Orders.own(Orders.GO, 52)));
        Check.dueAll("10 GO, 5 ahead of 9", b.fault(), 5, 6, 8, 40);
        b.does(4, Orders.indirect(Orders.own(Orders.GO, 53)));
        Check.dueAll("10 GO, 2 ahead of 9", b.fault(), 2, 5, 8, 100);
        b.does(4, Orders.own(Orders.GO_UNLIKE, 100));
        Check.due("12 does not go, asks nothing", b.is(Bench.FAULTS), 0);
        b.does(4, Orders.indirect(Orders.own(Orders.GO_UNLIKE, 100)));
        Check.dueAll("12 does not go, the address is made", b.fault(), 2, 4, 8, 100);
        b.does(4, Orders.byLink(Orders.GO_UNLIKE, 0));
        Check.dueAll("12 does not go, the link is made", b.fault(), 12, 4, 8, 0);
    }

    private static void index() {
        for (int r = 1; r <= 3; r++) {
            Bench b = new Bench().brackets(3, 7, 7, 0).put(50, 1000 + r);
            b.does(3, Orders.of(r, Orders.own(Orders.LOAD_X, 50)), Orders.of(r, Orders.own(Orders.STORE_X, 51)));
            Check.due("15 X" + r, b.is(Bench.A + r), 1000 + r);
            Check.due("16 X" + r, b.x.stored(0, 51), 1000 + r);
            b.does(3, Orders.of(r, Orders.own(Orders.WORD_X, -300)));
            Check.due("17 X" + r + ", the word needs not be there", b.is(Bench.A + r), -300);
            b.does(3, Orders.of(r, Orders.immediate(Orders.LOAD_X, 7)),
                Orders.indexed(Orders.of(r, Orders.immediate(Orders.WORD_X, 4)), r));
            Check.due("17 X" + r + " of mode 3", b.is(Bench.A + r), 11);
            b.put(50, Orders.pointerWord(0, 4095, 65535));
            b.does(3, Orders.of(r, Orders.indirect(Orders.own(Orders.WORD_X, 50))));
            Check.due("17 X" + r + " of a pointer word", b.is(Bench.A + r), 65535);
        }
        Bench b = new Bench().brackets(2, 5, 5, 0);
        b.does(3, Orders.of(1, Orders.own(Orders.STORE_X, 50)));
        Check.dueAll("16 may not write", b.fault(), 4, 3, 8, 50);
        b.does(3, Orders.of(1, Orders.own(Orders.LOAD_X, 100)));
        Check.dueAll("15 outside", b.fault(), 2, 3, 8, 100);
    }

    private static void pointAndKeep() {
        for (int r = 0; r < 8; r++) {
            Bench b = new Bench().brackets(3, 7, 7, 0).put(50, Orders.pointerWord(6, 4095, 65535));
            b.does(3, Orders.of(r, Orders.indirect(Orders.own(Orders.POINT, 50))),
                Orders.of(r, Orders.own(Orders.KEEP, 60)));
            Check.dueAll("18 P" + r + " needs not be known", b.pointer(r), 6, 4095, 65535);
            Check.dueAll("18 the others stay", b.pointer(7 - r), 3, 0, 0);
            Check.due("19 P" + r, b.x.stored(0, 60), Orders.pointerWord(6, 4095, 65535));
        }
        Bench b = new Bench();
        b.does(3, Orders.of(2, Orders.own(Orders.POINT, -1)));
        Check.dueAll("18 word below 0", b.fault(), 2, 3, 8, -1);
        Check.dueAll("18 below 0, the pointer stays", b.pointer(2), 3, 0, 0);
        b.put(50, 65535, 65536);
        int point = Orders.indexed(Orders.of(2, Orders.own(Orders.POINT, 0)), 1);
        b.does(3, Orders.of(1, Orders.own(Orders.LOAD_X, 50)), point);
        Check.dueAll("18 word 65535", b.pointer(2), 3, 8, 65535);
        b.does(3, Orders.of(1, Orders.own(Orders.LOAD_X, 51)), point);
        Check.dueAll("18 word 65536", b.fault(), 2, 3, 8, 65536);
        b.brackets(2, 5, 5, 0);
        b.does(3, Orders.of(1, Orders.own(Orders.KEEP, 60)));
        Check.dueAll("19 may not write", b.fault(), 4, 3, 8, 60);
    }

    private static void tries() {
        Bench b = new Bench().brackets(3, 5, 5, 0);
        int[][] cases = {{3, 50, 0, 0}, {4, 50, 0, 1}, {4, 100, 1, 1}, {4, -1, 1, 1}};
        for (int[] c : cases) {
            b.does(c[0], Orders.own(Orders.TRY_READ, c[1]));
            Check.due("22 ring " + c[0] + " word " + c[1], b.is(Bench.CONDITION), c[2]);
            Check.due("22 has no fault", b.is(Bench.FAULTS), 0);
            b.does(c[0], Orders.own(Orders.TRY_WRITE, c[1]));
            Check.due("23 ring " + c[0] + " word " + c[1], b.is(Bench.CONDITION), c[3]);
            Check.due("23 has no fault", b.is(Bench.FAULTS), 0);
        }
        b.does(4, Orders.immediate(Orders.COMPARE, 9), Orders.own(Orders.TRY_READ, 50));
        Check.due("22 sets it to 0", b.is(Bench.CONDITION), 0);
        b.put(50, Orders.pointerWord(6, 8, 1), Orders.pointerWord(4, 99, 1));
        b.does(4, Orders.indirect(Orders.own(Orders.TRY_READ, 50)));
        Check.due("22 by a ring that may not", b.is(Bench.CONDITION), 1);
        b.does(4, Orders.indirect(Orders.own(Orders.TRY_READ, 51)));
        Check.due("22 of what is not known", b.is(Bench.CONDITION), 1);
        b.does(4, Orders.indirect(Orders.own(Orders.TRY_WRITE, 100)));
        Check.dueAll("23 a pointer word that can't be read", b.fault(), 2, 4, 8, 100);
        b.does(4, Orders.byLink(Orders.TRY_READ, 3));
        Check.dueAll("22 a link that is not there", b.fault(), 12, 4, 8, 3);
    }

    private static void lawless() {
        for (int op = 26; op < 32; op++) {
            Bench b = new Bench();
            b.does(3, Orders.indirect(Orders.own(op, 100)));
            Check.dueAll("op " + op + " ahead of the address", b.fault(), 13, 3, 8, 0);
            b.does(3, Orders.byLink(op, 0));
            Check.dueAll("op " + op + " ahead of the link", b.fault(), 13, 3, 8, 0);
        }
        for (int op = 1; op <= 23; op++) {
            boolean refused = op == 2 || op >= 10 && op <= 14 || op == 16 || op >= 18;
            Bench b = new Bench();
            b.does(3, Orders.of(1, Orders.immediate(op, 5)));
            Check.due("mode 3 of " + op, b.is(Bench.KIND), refused ? 13 : 0);
            b.does(3, Orders.of(1, Orders.indirect(Orders.immediate(op, 5))));
            Check.dueAll("mode 3 with I of " + op, b.fault(), 13, 3, 8, 0);
        }
        for (int op = 15; op <= 17; op++) {
            for (int r = 0; r < 8; r++) {
                Bench b = new Bench().brackets(3, 7, 7, 0);
                b.does(3, Orders.of(r, Orders.own(op, 5)));
                Check.due("r " + r + " of " + op, b.is(Bench.KIND), r == 0 || r > 3 ? 13 : 0);
                b.does(3, Orders.of(r, Orders.byLink(op, 0)));
                Check.due("r " + r + " of " + op + " and a link", b.is(Bench.KIND), r == 0 || r > 3 ? 13 : 12);
            }
        }
    }

    /** HALT, SAY and RESUME look at none of the other bits. */
    private static void withoutAddress() {
        int all = (1 << 27) - 1;
        Bench b = new Bench();
        b.does(3, Orders.HALT << 27 | all);
        Check.due("0 HALT", b.is(Bench.STATUS), Bench.HALTED);
        Check.dueAll("0 the place stays", b.place(), 3, 8, 0);
        b.does(0, Orders.SAY << 27 | all);
        Check.due("24 SAY", b.x.sayings(), 1);
        b.does(1, Orders.SAY << 27 | all);
        Check.dueAll("24 SAY outside ring 0", b.fault(), 14, 1, 8, 0);
        Check.due("24 is not said", b.x.sayings(), 1);
        b.does(1, Orders.RESUME << 27 | all);
        Check.dueAll("25 RESUME outside ring 0", b.fault(), 14, 1, 8, 0);
        b.does(0, Orders.RESUME << 27 | all);
        Check.dueAll("25 nothing saved", b.fault(), 13, 0, 8, 0);
    }

    private static void selfWriting() {
        Bench b = new Bench().put(50, Orders.immediate(Orders.LOAD, 5));
        b.does(0, Orders.own(Orders.LOAD, 50), Orders.own(Orders.STORE, 2), Orders.own(Orders.HALT, 0));
        Check.due("10 a word that was just written is done", b.is(Bench.A), 5);
    }
}
