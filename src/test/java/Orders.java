/** Writes the words that the machine executes. */
final class Orders {
    static final int HALT = 0, LOAD = 1, STORE = 2, ADD = 3, SUB = 4, MUL = 5, AND = 6, OR = 7, XOR = 8, COMPARE = 9;
    static final int GO = 10, GO_ALIKE = 11, GO_UNLIKE = 12, GO_BELOW = 13, GO_NOT_BELOW = 14;
    static final int LOAD_X = 15, STORE_X = 16, WORD_X = 17, POINT = 18, KEEP = 19, CALL = 20, RETURN = 21;
    static final int TRY_READ = 22, TRY_WRITE = 23, SAY = 24, RESUME = 25;

    private static final int INDIRECT = 1 << 26;

    private Orders() {
    }

    static int own(int op, int offset) {
        return op << 27 | offset & 65535;
    }

    static int byPointer(int op, int n, int offset) {
        return own(op, offset) | 1 << 24 | n << 21;
    }

    static int byLink(int op, int link) {
        return own(op, link) | 2 << 24;
    }

    static int immediate(int op, int operand) {
        return own(op, operand) | 3 << 24;
    }

    static int indirect(int order) {
        return order | INDIRECT;
    }

    static int indexed(int order, int x) {
        return order | x << 19;
    }

    /** Names Xr, or Pr. */
    static int of(int r, int order) {
        return order | r << 16;
    }

    static int pointerWord(int ring, int number, int word) {
        return ring << 28 | number << 16 | word;
    }

    static int again(int pointerWord) {
        return pointerWord | 1 << 31;
    }
}
