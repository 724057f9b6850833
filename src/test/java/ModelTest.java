import java.util.Arrays;
import java.util.Random;

/** Holds RingWarden against the Model in runs of made-up calls: promises 1 to 18, right and wrong inputs mixed. */
public final class ModelTest {
    private static final int RUNS = 20000;
    private static final int CALLS_KEPT_FOR_THE_END = 60;
    private static final int CODE = 14;
    private static final int[] EDGES = {Integer.MIN_VALUE, -65536, -2, -1, 0, 1, 2, 3, 4, 7, 8, 9, 15, 16, 31, 32,
        63, 64, 199, 200, 255, 256, 257, 500, 501, 65535, 65536, Integer.MAX_VALUE};

    private static final long[] KINDS = new long[15];
    private static long calls = 0;
    private static long returns = 0;
    private static int mostKnown = 0;

    private final String at;
    private final Random random;
    private final Counted x = new Counted();
    private final Model m = new Model();

    private ModelTest(long seed) {
        at = "run " + seed + ": ";
        random = new Random(seed);
    }

    public static void main(String[] args) {
        // Behind a wrong answer the two may differ in all that follows, so that run is the last one.
        for (int seed = 0; seed < RUNS && Check.allRight(); seed++) {
            ModelTest test = new ModelTest(seed);
            if (seed % 16 == 0) {
                test.buildMany();
            } else {
                test.buildFew();
            }
            while (test.x.callsLeft() > CALLS_KEPT_FOR_THE_END) {
                test.call();
            }
            test.compareSome();
        }
        System.out.println("faults met, by kind: " + Arrays.toString(KINDS) + "; calls " + calls + ", returns "
            + returns + ", most known " + mostKnown);
        for (int kind = 0; kind < KINDS.length && Check.allRight(); kind++) {
            Check.due("kind " + kind + " was met", KINDS[kind] > 0, true);
        }
        Check.finish();
    }

    private int upTo(int n) {
        return random.nextInt(n + 1);
    }

    /** Mostly from the range that is allowed, now and then from anywhere. */
    private int some(int from, int to) {
        if (random.nextInt(40) == 0) {
            return EDGES[random.nextInt(EDGES.length)];
        }
        return from + random.nextInt(to - from + 1);
    }

    /** Two to four segments with much in them. */
    private void buildFew() {
        int count = 2 + upTo(2);
        for (int s = 0; s < count; s++) {
            setSegment(s, 22 + upTo(8));
            setSomeBrackets(s);
            for (int user = 0; user < 4; user++) {
                setFlags(s, user, random.nextInt(4) == 0 ? upTo(7) : 7);
            }
            for (int k = 0; k < 3; k++) {
                setDefinition(s, k, 2 * k);
            }
            for (int k = 0; k < 22; k++) {
                setWord(s, k, someWord(k));
            }
            for (int k = 0; k < 8; k++) {
                setLink(s, k, upTo(count), upTo(3));
            }
        }
    }

    /** All the segments that there can be, each with an order that goes on to another one by a link. */
    private void buildMany() {
        int user = upTo(3);
        int[] words = new int[32];
        for (int s = 0; s < 32; s++) {
            words[s] = 1 + upTo(255);
            setSegment(-s, words[s]);
            setBrackets(s, 0, 7, 7, words[s]);
            setFlags(s, user, 7);
            setDefinition(s, 3 * s, words[s] / 2);
            int k = upTo(15);
            int next = (s + 1 + upTo(1)) % 32;
            setLink(s, k, -next, 3 * next);
            setWord(s, words[s] / 2, Orders.byLink(random.nextInt(3) == 0 ? Orders.CALL : Orders.GO, k));
        }
        start(user, 0, words[0] / 2, upTo(7));
        for (int i = 0; i < 4; i++) {
            run(user, upTo(30));
        }
    }

    private void setSegment(int name, int words) {
        Check.dueOf(at, "segment", x.segment(name, words), m.segment(name, words), name, words);
    }

    private void setBrackets(int s, int r1, int r2, int r3, int gates) {
        Check.dueOf(at, "brackets", x.brackets(s, r1, r2, r3, gates), m.brackets(s, r1, r2, r3, gates),
            s, r1, r2, r3, gates);
    }

    /** Half of the segments can hold a handler. */
    private void setSomeBrackets(int s) {
        int r1 = random.nextInt(2) == 0 ? 0 : upTo(5);
        int r2 = Math.min(7, r1 + upTo(5));
        setBrackets(s, r1, r2, Math.min(7, r2 + upTo(3)), upTo(20));
    }

    private void setFlags(int s, int user, int flags) {
        Check.dueOf(at, "flags", x.flags(s, user, flags), m.flags(s, user, flags), s, user, flags);
    }

    private void setWord(int s, int k, int w) {
        Check.dueOf(at, "word", x.word(s, k, w), m.word(s, k, w), s, k, w);
    }

    private void setDefinition(int s, int symbol, int k) {
        Check.dueOf(at, "define", x.define(s, symbol, k), m.define(s, symbol, k), s, symbol, k);
    }

    private void setLink(int s, int k, int name, int symbol) {
        Check.dueOf(at, "link", x.link(s, k, name, symbol), m.link(s, k, name, symbol), s, k, name, symbol);
    }

    /** Orders in front, pointer words and numbers behind, so that the orders have something to point by. */
    private int someWord(int k) {
        if (random.nextInt(20) == 0) {
            return random.nextInt();
        }
        return k < CODE == (random.nextInt(10) != 0) ? someOrder() : somePointerWord();
    }

    private int somePointerWord() {
        boolean again = random.nextInt(2) == 0;
        int ring = random.nextInt(2) == 0 ? upTo(7) : 0;
        int number = random.nextInt(3) == 0 ? upTo(14) : 8;
        int word = again ? CODE + upTo(7) : upTo(24);
        return (again ? 1 << 31 : 0) | ring << 28 | number << 16 | word;
    }

    private int someOrder() {
        switch (random.nextInt(12)) {
            case 0: return Orders.byLink(Orders.CALL, upTo(7));
            case 1: return Orders.own(Orders.RETURN, CODE + upTo(7));
            case 2: return Orders.of(1, Orders.immediate(Orders.LOAD_X, upTo(3)));
            // By the ring of a pointer word, the ring that an order goes to is often not the place's.
            case 3: return Orders.indirect(Orders.own(upTo(1) == 0 ? Orders.GO : Orders.CALL, CODE + upTo(7)));
            default: return anyOrder();
        }
    }

    private int anyOrder() {
        int op = random.nextInt(30) == 0 ? upTo(31) : 1 + upTo(24);
        int indirect = random.nextInt(4) == 0 ? 1 << 26 : 0;
        int index = random.nextInt(4) == 0 ? upTo(3) << 19 : 0;
        int mode = upTo(3);
        if (mode == 3 && random.nextInt(4) != 0) {
            indirect = 0;
        }
        int r = random.nextInt(4) == 0 ? upTo(7) : 1 + upTo(2);
        int offset = random.nextInt(12) == 0 ? random.nextInt() & 65535 : mode == 2 ? upTo(9)
            : indirect != 0 || op == 21 ? CODE + upTo(8) : upTo(24);
        return op << 27 | indirect | mode << 24 | upTo(7) << 21 | index | r << 16 | offset;
    }

    private void call() {
        int p = some(0, 3);
        int s = some(0, 4);
        int a = some(0, 24);
        int b = some(0, 7);
        int c = some(0, 7);
        switch (random.nextInt(24)) {
            case 0: setSegment(a, b); break;
            case 1: setBrackets(s, b / 2, c, p + 4, a); break;
            case 2: setFlags(s, p, b | c); break;
            case 3: case 4: setWord(s, a, someWord(a)); break;
            case 5: setDefinition(s, b, a); break;
            case 6: setLink(s, b, c, a / 8); break;
            case 7: case 8: case 9: startSome(p, s, a, b); break;
            case 10: case 11: Check.dueOf(at, "handler", x.handler(p, s, a), m.handler(p, s, a), p, s, a); break;
            case 12: case 13: case 14: case 15: run(p, some(0, 12)); break;
            case 16: Check.dueOf(at, "pointer", x.pointer(p, b, c), m.pointer(p, b, c), p, b, c); break;
            case 17: Check.dueOf(at, "peek", x.peek(p, c, a), m.peek(p, c, a), p, c, a); break;
            case 18: Check.dueOf(at, "stored", x.stored(s, a), m.stored(s, a), s, a); break;
            case 19: Check.dueOf(at, "known", x.known(p, a), m.known(p, a), p, a); break;
            case 20: Check.dueOf(at, "may", x.may(p, b, a, c / 2), m.may(p, b, a, c / 2), p, b, a, c / 2); break;
            case 21: Check.dueOf(at, "said", x.said(a), m.said(a), a); break;
            case 22: Check.dueOf(at, "sayings", x.sayings(), m.sayings()); break;
            default: Check.dueOf(at, "state", x.state(p, a), m.state(p, a), p, a); break;
        }
    }

    /** Mostly in a ring that may execute there. */
    private void startSome(int p, int s, int k, int anyRing) {
        boolean there = s >= 0 && s < m.segments.size();
        int ring = there && random.nextInt(8) != 0 ? m.segments.get(s).r[random.nextInt(2)] : anyRing;
        start(p, s, random.nextInt(8) == 0 ? k : upTo(CODE), ring);
    }

    private void start(int p, int s, int k, int ring) {
        Check.dueOf(at, "start", x.start(p, s, k, ring), m.start(p, s, k, ring), p, s, k, ring);
    }

    private void run(int p, int n) {
        Check.dueOf(at, "run", x.run(p, n), m.run(p, n), p, n);
        for (int what = 0; what < 19; what++) {
            Check.dueOf(at, "state", x.state(p, what), m.state(p, what), p, what);
        }
        for (int i = upTo(3); i < 24; i += 4) {
            Check.dueOf(at, "pointer", x.pointer(p, i / 3, i % 3), m.pointer(p, i / 3, i % 3), p, i / 3, i % 3);
        }
        KINDS[m.state(p, 9)]++;
        calls += m.state(p, 17);
        returns += m.state(p, 18);
        mostKnown = Math.max(mostKnown, m.state(p, 16));
    }

    private void compareSome() {
        int ofStack = upTo(7);
        while (x.callsLeft() > 3) {
            int p = upTo(3);
            int number = random.nextInt(4) == 0 ? ofStack : upTo(14);
            int k = number < 8 ? upTo(24) : upTo(30);
            Check.dueOf(at, "known", x.known(p, number), m.known(p, number), p, number);
            Check.dueOf(at, "peek", x.peek(p, number, k), m.peek(p, number, k), p, number, k);
            Check.dueOf(at, "said", x.said(k), m.said(k), k);
        }
        Check.dueOf(at, "sayings", x.sayings(), m.sayings());
    }
}
