import java.util.Arrays;

/**
 * A machine of rings and segments. The words of its document (segment, bracket, gate, link, fault ..)
 * are used here as they are used there.
 */
public final class RingWarden {
    public static final int NONE = -1;

    private static final int MAX_SEGMENTS = 32;
    private static final int MAX_WORDS = 256;
    private static final int MAX_DEFINITIONS = 16;
    private static final int LINKS = 16;
    private static final int USERS = 4;
    private static final int RINGS = 8;
    private static final int STACK_WORDS = 64;
    private static final int STACK = -2;
    private static final int POINTERS = 8;
    private static final int LOW_16_BITS = 65535;
    private static final int MAX_RUN = 500;
    private static final int KEPT_SAYINGS = 200;
    private static final int MAX_POINTER_WORDS = 8;

    private static final int READ = 0;
    private static final int WRITE = 1;
    private static final int EXECUTE = 2;

    private static final int READ_FLAG = 1;
    private static final int WRITE_FLAG = 2;
    private static final int EXECUTE_FLAG = 4;
    private static final int ALL_FLAGS = 7;

    private static final int RUNNING = 1;
    private static final int HALTED = 2;
    private static final int FAULTED = 3;
    private static final int DEAD = 4;

    private static final int NO_FAULT = 0;
    private static final int NOT_KNOWN = 1;
    private static final int OUTSIDE_SEGMENT = 2;
    private static final int READ_REFUSED = 3;
    private static final int WRITE_REFUSED = 4;
    private static final int EXECUTE_REFUSED = 5;
    private static final int NOT_A_GATE = 6;
    private static final int BELOW_BRACKETS = 7;
    private static final int ABOVE_BRACKETS = 8;
    private static final int WRONG_RING = 9;
    private static final int RETURN_INWARDS = 10;
    private static final int CHAIN_TOO_LONG = 11;
    private static final int NOT_LINKABLE = 12;
    private static final int BAD_ORDER = 13;
    private static final int NOT_RING_0 = 14;

    private static final int OP_HALT = 0;
    private static final int OP_LOAD = 1;
    private static final int OP_STORE = 2;
    private static final int OP_ADD = 3;
    private static final int OP_SUB = 4;
    private static final int OP_MUL = 5;
    private static final int OP_AND = 6;
    private static final int OP_OR = 7;
    private static final int OP_XOR = 8;
    private static final int OP_COMPARE = 9;
    private static final int OP_GO = 10;
    private static final int OP_GO_ALIKE = 11;
    private static final int OP_GO_UNLIKE = 12;
    private static final int OP_GO_BELOW = 13;
    private static final int OP_GO_NOT_BELOW = 14;
    private static final int OP_LOAD_INDEX = 15;
    private static final int OP_STORE_INDEX = 16;
    private static final int OP_INDEX_ADDRESS = 17;
    private static final int OP_POINT = 18;
    private static final int OP_KEEP = 19;
    private static final int OP_CALL = 20;
    private static final int OP_RETURN = 21;
    private static final int OP_TRY_READ = 22;
    private static final int OP_TRY_WRITE = 23;
    private static final int OP_SAY = 24;
    private static final int OP_RESUME = 25;

    private static final int BY_POINTER = 1;
    private static final int BY_LINK = 2;
    private static final int IMMEDIATE = 3;

    private final Catalog catalog;
    private final Sayings spoken;
    private final Processor processor;
    private final ProcessState[] processes;

    public RingWarden() {
        catalog = new Catalog();
        spoken = new Sayings();
        processor = new Processor(catalog, spoken);
        processes = new ProcessState[USERS];
    }

    public int segment(int name, int words) {
        return catalog.make(name, words);
    }

    public boolean brackets(int s, int r1, int r2, int r3, int gates) {
        Segment segment = catalog.numbered(s);
        return segment != null && segment.setBrackets(r1, r2, r3, gates);
    }

    public boolean flags(int s, int user, int flags) {
        Segment segment = catalog.numbered(s);
        return segment != null && segment.setFlags(user, flags);
    }

    public boolean word(int s, int k, int v) {
        Segment segment = catalog.numbered(s);
        return segment != null && segment.write(k, v);
    }

    public boolean define(int s, int symbol, int k) {
        Segment segment = catalog.numbered(s);
        return segment != null && segment.hasWord(k) && segment.names.addDefinition(symbol, k);
    }

    public boolean link(int s, int k, int name, int symbol) {
        Segment segment = catalog.numbered(s);
        return segment != null && segment.names.setLink(k, name, symbol);
    }

    public boolean start(int p, int s, int k, int ring) {
        Segment first = catalog.numbered(s);
        if (!isBelow(p, USERS) || first == null || !isBelow(ring, RINGS) || !fits16Bits(k)) {
            return false;
        }
        if (processes[p] == null) {
            processes[p] = new ProcessState(p);
        }
        processes[p].begin(first, k, ring);
        return true;
    }

    public int handler(int p, int s, int k) {
        ProcessState process = processAt(p);
        Segment segment = catalog.numbered(s);
        if (process == null || segment == null || !fits16Bits(k)) {
            return NONE;
        }
        return process.setHandler(segment, k);
    }

    public int run(int p, int n) {
        ProcessState process = processAt(p);
        if (process == null || n < 0 || n > MAX_RUN) {
            return NONE;
        }
        int done = 0;
        while (done < n && process.status == RUNNING) {
            processor.step(process);
            done++;
        }
        return done;
    }

    public int state(int p, int what) {
        ProcessState process = processAt(p);
        return process == null ? 0 : process.report(what);
    }

    public int pointer(int p, int n, int what) {
        ProcessState process = processAt(p);
        if (process == null || !isBelow(n, POINTERS)) {
            return NONE;
        }
        Place pointer = process.now.pointers[n];
        switch (what) {
            case 0: return pointer.ring;
            case 1: return pointer.number;
            case 2: return pointer.word;
            default: return NONE;
        }
    }

    public int peek(int p, int number, int k) {
        ProcessState process = processAt(p);
        Segment segment = process == null ? null : process.segmentAt(number);
        return segment == null ? 0 : segment.read(k);
    }

    public int stored(int s, int k) {
        Segment segment = catalog.numbered(s);
        return segment == null ? 0 : segment.read(k);
    }

    public int known(int p, int number) {
        ProcessState process = processAt(p);
        Segment segment = process == null ? null : process.segmentAt(number);
        return segment == null ? NONE : segment.number;
    }

    public int may(int p, int ring, int number, int how) {
        ProcessState process = processAt(p);
        Segment segment = process == null ? null : process.segmentAt(number);
        if (segment == null || !isBelow(ring, RINGS) || how < READ || how > EXECUTE) {
            return NONE;
        }
        return segment.allows(p, ring, how) ? 1 : 0;
    }

    public int said(int i) {
        return spoken.at(i);
    }

    public int sayings() {
        return spoken.count;
    }

    private ProcessState processAt(int p) {
        return isBelow(p, USERS) ? processes[p] : null;
    }

    private static boolean isBelow(int k, int bound) {
        return k >= 0 && k < bound;
    }

    private static boolean fits16Bits(int k) {
        return k >= 0 && k <= LOW_16_BITS;
    }

    /** What a segment defines for others, and the links that it has to others. */
    private static final class Names {
        private final int[] symbols = new int[MAX_DEFINITIONS];
        private final int[] symbolWords = new int[MAX_DEFINITIONS];
        private int definitions;
        private final boolean[] linkThere = new boolean[LINKS];
        private final int[] linkNames = new int[LINKS];
        private final int[] linkSymbols = new int[LINKS];

        boolean addDefinition(int symbol, int word) {
            if (definitions >= MAX_DEFINITIONS || wordOf(symbol) != NONE) {
                return false;
            }
            symbols[definitions] = symbol;
            symbolWords[definitions] = word;
            definitions++;
            return true;
        }

        int wordOf(int symbol) {
            for (int i = 0; i < definitions; i++) {
                if (symbols[i] == symbol) {
                    return symbolWords[i];
                }
            }
            return NONE;
        }

        boolean setLink(int k, int name, int symbol) {
            if (!isBelow(k, LINKS)) {
                return false;
            }
            linkThere[k] = true;
            linkNames[k] = name;
            linkSymbols[k] = symbol;
            return true;
        }

        boolean hasLink(int k) {
            return isBelow(k, LINKS) && linkThere[k];
        }
    }

    /** A segment of the list, or a stack of a process (its number is STACK then, and its names are empty). */
    private static final class Segment {
        private final int number;
        private final int name;
        private final int[] words;
        private final int[] flagsOf = new int[USERS];
        private final Names names;
        private int r1;
        private int r2;
        private int r3;
        private int gates;

        Segment(int number, int name, int[] words, Names names) {
            this.number = number;
            this.name = name;
            this.words = words;
            this.names = names;
        }

        boolean hasWord(int k) {
            return isBelow(k, words.length);
        }

        int read(int k) {
            return hasWord(k) ? words[k] : 0;
        }

        boolean write(int k, int v) {
            if (!hasWord(k)) {
                return false;
            }
            words[k] = v;
            return true;
        }

        boolean setBrackets(int low, int middle, int high, int gateCount) {
            boolean ordered = 0 <= low && low <= middle && middle <= high && high < RINGS;
            if (!ordered || gateCount < 0 || gateCount > words.length) {
                return false;
            }
            r1 = low;
            r2 = middle;
            r3 = high;
            gates = gateCount;
            return true;
        }

        boolean setFlags(int user, int flags) {
            if (!isBelow(user, USERS) || flags < 0 || flags > ALL_FLAGS) {
                return false;
            }
            flagsOf[user] = flags;
            return true;
        }

        boolean hasFlag(int user, int flag) {
            return user >= 0 && user < USERS && (flagsOf[user] & flag) != 0;
        }

        boolean allows(int user, int ring, int how) {
            switch (how) {
                case READ: return hasFlag(user, READ_FLAG) && ring <= r2;
                case WRITE: return hasFlag(user, WRITE_FLAG) && ring <= r1;
                default: return hasFlag(user, EXECUTE_FLAG) && ring >= r1 && ring <= r2;
            }
        }
    }

    /** The list of all segments. */
    private static final class Catalog {
        private final Segment[] segments = new Segment[MAX_SEGMENTS];
        private int count;

        int make(int name, int words) {
            if (count >= MAX_SEGMENTS || words < 1 || words > MAX_WORDS || named(name) != null) {
                return NONE;
            }
            segments[count] = new Segment(count, name, new int[words], new Names());
            count++;
            return count - 1;
        }

        Segment numbered(int s) {
            return isBelow(s, count) ? segments[s] : null;
        }

        Segment named(int name) {
            for (int i = 0; i < count; i++) {
                if (segments[i].name == name) {
                    return segments[i];
                }
            }
            return null;
        }
    }

    /** What was said by all processes: all of it counted, the first ones kept. */
    private static final class Sayings {
        private final int[] kept = new int[KEPT_SAYINGS];
        private int count;

        void add(int v) {
            // An object that is used far beyond its calls wraps the count below 0.
            if (isBelow(count, KEPT_SAYINGS)) {
                kept[count] = v;
            }
            count++;
        }

        int at(int i) {
            return isBelow(i, KEPT_SAYINGS) ? kept[i] : 0;
        }
    }

    /** A ring, a number by which a process knows a segment, and a word: a place, a pointer or an address. */
    private static final class Place {
        private int ring;
        private int number;
        private int word;

        void set(int newRing, int newNumber, int newWord) {
            ring = newRing;
            number = newNumber;
            word = newWord;
        }

        void copy(Place from) {
            set(from.ring, from.number, from.word);
        }

        /** Takes the number and word of a pointer word; the ring is given, as its rule differs with the use. */
        void unpack(int newRing, int pointerWord) {
            set(newRing, (pointerWord >>> 16) & 4095, pointerWord & LOW_16_BITS);
        }

        int pack() {
            return (ring << 28) | (number << 16) | word;
        }

        static int ringOf(int pointerWord) {
            return (pointerWord >>> 28) & 7;
        }
    }

    /** All of a process that a fault saves and RESUME brings back. */
    private static final class Registers {
        private final Place place = new Place();
        private final Place[] pointers = new Place[POINTERS];
        /** X0 is never written, so that adding it adds nothing. */
        private final int[] x = new int[4];
        private int a;
        private int condition;

        Registers() {
            for (int i = 0; i < POINTERS; i++) {
                pointers[i] = new Place();
            }
        }

        void clear(int ring, int number, int word) {
            place.set(ring, number, word);
            for (int i = 0; i < POINTERS; i++) {
                pointers[i].set(ring, 0, 0);
            }
            Arrays.fill(x, 0);
            a = 0;
            condition = 0;
        }

        void copy(Registers from) {
            place.copy(from.place);
            for (int i = 0; i < POINTERS; i++) {
                pointers[i].copy(from.pointers[i]);
            }
            System.arraycopy(from.x, 0, x, 0, x.length);
            a = from.a;
            condition = from.condition;
        }

        void raisePointers(int ring) {
            for (int i = 0; i < POINTERS; i++) {
                pointers[i].ring = Math.max(pointers[i].ring, ring);
            }
        }
    }

    /** A process that was started at least once; its rows are used again when it begins anew. */
    private static final class ProcessState {
        private final int user;
        private final Registers now = new Registers();
        private final Registers saved = new Registers();
        private final Segment[] segments = new Segment[RINGS + MAX_SEGMENTS];
        private final int[] linkedNumbers = new int[MAX_SEGMENTS * LINKS];
        private final int[] linkedWords = new int[MAX_SEGMENTS * LINKS];
        private final Place handlerPlace = new Place();
        private final Place faultPlace = new Place();
        private int status;
        private int segmentCount;
        private boolean hasHandler;
        private boolean hasSaved;
        private int faultKind;
        private int steps;
        private int faults;
        private int calls;
        private int returns;

        ProcessState(int user) {
            this.user = user;
            Names empty = new Names();
            for (int ring = 0; ring < RINGS; ring++) {
                Segment stack = new Segment(STACK, 0, new int[STACK_WORDS], empty);
                stack.setBrackets(ring, ring, ring, 0);
                stack.setFlags(user, READ_FLAG + WRITE_FLAG);
                segments[ring] = stack;
            }
        }

        void begin(Segment first, int word, int ring) {
            for (int i = 0; i < RINGS; i++) {
                Arrays.fill(segments[i].words, 0);
            }
            segmentCount = RINGS;
            Arrays.fill(linkedNumbers, NONE);
            now.clear(ring, learn(first), word);
            faultPlace.set(0, 0, 0);
            status = RUNNING;
            hasHandler = false;
            hasSaved = false;
            faultKind = NO_FAULT;
            steps = 0;
            faults = 0;
            calls = 0;
            returns = 0;
        }

        /** The number by which the process knows a segment from now on. */
        int learn(Segment segment) {
            for (int i = RINGS; i < segmentCount; i++) {
                if (segments[i] == segment) {
                    return i;
                }
            }
            if (segmentCount >= segments.length) {
                return NONE;
            }
            segments[segmentCount] = segment;
            segmentCount++;
            return segmentCount - 1;
        }

        Segment segmentAt(int number) {
            return isBelow(number, segmentCount) ? segments[number] : null;
        }

        int setHandler(Segment segment, int word) {
            hasHandler = true;
            handlerPlace.set(0, learn(segment), word);
            return handlerPlace.number;
        }

        void takeFault(int kind, Place at) {
            faults++;
            faultKind = kind;
            faultPlace.copy(at);
            if (!hasHandler) {
                status = FAULTED;
            } else if (hasSaved) {
                status = DEAD;
            } else {
                saved.copy(now);
                hasSaved = true;
                now.place.copy(handlerPlace);
                now.a = kind;
                now.pointers[1].set(at.ring, at.number, at.word & LOW_16_BITS);
            }
        }

        void bringBack() {
            now.copy(saved);
            hasSaved = false;
        }

        int report(int what) {
            switch (what) {
                case 0: return status;
                case 1: return now.place.ring;
                case 2: return now.place.number;
                case 3: return now.place.word;
                case 4: return now.a;
                case 5: case 6: case 7: return now.x[what - 4];
                case 8: return now.condition;
                case 9: return faultKind;
                case 10: return faultPlace.ring;
                case 11: return faultPlace.number;
                case 12: return faultPlace.word;
                case 13: return steps;
                case 14: return faults;
                case 15: return hasSaved ? 1 : 0;
                case 16: return segmentCount;
                case 17: return calls;
                case 18: return returns;
                default: return 0;
            }
        }
    }

    /** A fetched word, taken apart. */
    private static final class Order {
        private int op;
        private boolean indirect;
        private int mode;
        private int n;
        private int x;
        private int r;
        private int offset;

        void decode(int w) {
            op = w >>> 27;
            indirect = ((w >>> 26) & 1) != 0;
            mode = (w >>> 24) & 3;
            n = (w >>> 21) & 7;
            x = (w >>> 19) & 3;
            r = (w >>> 16) & 7;
            offset = (w << 16) >> 16;
        }

        boolean hasAddress() {
            return op != OP_HALT && op != OP_SAY && op != OP_RESUME;
        }

        boolean isLawful() {
            if (op > OP_RESUME) {
                return false;
            }
            if (!hasAddress()) {
                return true;
            }
            if (mode == IMMEDIATE && (indirect || !takesImmediate())) {
                return false;
            }
            return !namesIndex() || (r >= 1 && r <= 3);
        }

        private boolean takesImmediate() {
            switch (op) {
                case OP_LOAD: case OP_ADD: case OP_SUB: case OP_MUL: case OP_AND: case OP_OR: case OP_XOR:
                case OP_COMPARE: case OP_LOAD_INDEX: case OP_INDEX_ADDRESS:
                    return true;
                default:
                    return false;
            }
        }

        private boolean namesIndex() {
            return op == OP_LOAD_INDEX || op == OP_STORE_INDEX || op == OP_INDEX_ADDRESS;
        }
    }

    /**
     * Does the steps of any process. Each method that answers a fault's kind (or NO_FAULT) leaves the
     * fault's address in the field address, and changes the process only when no fault can follow.
     */
    private static final class Processor {
        private final Catalog catalog;
        private final Sayings spoken;
        private final Order order = new Order();
        private final Place address = new Place();
        private final Place next = new Place();

        Processor(Catalog catalog, Sayings spoken) {
            this.catalog = catalog;
            this.spoken = spoken;
        }

        void step(ProcessState p) {
            p.steps++;
            Place place = p.now.place;
            next.set(place.ring, place.number, place.word + 1);
            int fault = fetch(p);
            if (fault == NO_FAULT && order.hasAddress()) {
                fault = makeAddress(p);
            }
            if (fault == NO_FAULT) {
                fault = obey(p);
            }
            if (fault == NO_FAULT) {
                place.copy(next);
            } else {
                p.takeFault(fault, address);
            }
        }

        private int fetch(ProcessState p) {
            address.copy(p.now.place);
            int fault = ask(p, EXECUTE);
            if (fault != NO_FAULT) {
                return fault;
            }
            order.decode(wordAtAddress(p));
            return order.isLawful() ? NO_FAULT : BAD_ORDER;
        }

        private int ask(ProcessState p, int how) {
            Segment segment = p.segmentAt(address.number);
            if (segment == null) {
                return NOT_KNOWN;
            }
            if (!segment.hasWord(address.word)) {
                return OUTSIDE_SEGMENT;
            }
            if (segment.allows(p.user, address.ring, how)) {
                return NO_FAULT;
            }
            switch (how) {
                case READ: return READ_REFUSED;
                case WRITE: return WRITE_REFUSED;
                default: return EXECUTE_REFUSED;
            }
        }

        private int wordAtAddress(ProcessState p) {
            Segment segment = p.segmentAt(address.number);
            return segment == null ? 0 : segment.read(address.word);
        }

        /** Of an immediate order there is no address: its operand is made where the address's word would be. */
        private int makeAddress(ProcessState p) {
            Place place = p.now.place;
            if (order.mode == BY_POINTER) {
                Place base = p.now.pointers[order.n];
                address.set(Math.max(place.ring, base.ring), base.number, base.word + order.offset);
            } else {
                address.set(place.ring, place.number, order.offset);
                if (order.mode == BY_LINK && !followLink(p)) {
                    return NOT_LINKABLE;
                }
            }
            address.word += p.now.x[order.x];
            return order.indirect ? followPointerWords(p) : NO_FAULT;
        }

        private boolean followLink(ProcessState p) {
            Place place = p.now.place;
            Segment from = p.segmentAt(place.number);
            int k = order.offset;
            // A stack has no links, and with its number no slot either.
            if (from == null || !isBelow(from.number, MAX_SEGMENTS) || !from.names.hasLink(k)) {
                return false;
            }
            int slot = from.number * LINKS + k;
            if (p.linkedNumbers[slot] == NONE && !makeLink(p, from.names, k, slot)) {
                return false;
            }
            address.set(place.ring, p.linkedNumbers[slot], p.linkedWords[slot]);
            return true;
        }

        private boolean makeLink(ProcessState p, Names names, int k, int slot) {
            Segment to = catalog.named(names.linkNames[k]);
            if (to == null || !to.hasFlag(p.user, ALL_FLAGS)) {
                return false;
            }
            int word = to.names.wordOf(names.linkSymbols[k]);
            if (word == NONE) {
                return false;
            }
            p.linkedNumbers[slot] = p.learn(to);
            p.linkedWords[slot] = word;
            return true;
        }

        private int followPointerWords(ProcessState p) {
            for (int i = 0; i < MAX_POINTER_WORDS; i++) {
                int fault = ask(p, READ);
                if (fault != NO_FAULT) {
                    return fault;
                }
                Segment from = p.segmentAt(address.number);
                int lowest = from == null ? 0 : from.r1;
                int pointerWord = wordAtAddress(p);
                int ring = Math.max(address.ring, Math.max(Place.ringOf(pointerWord), lowest));
                address.unpack(ring, pointerWord);
                // Bit 31 is the sign.
                if (pointerWord >= 0) {
                    return NO_FAULT;
                }
            }
            return CHAIN_TOO_LONG;
        }

        private int obey(ProcessState p) {
            switch (order.op) {
                case OP_HALT: return halt(p);
                case OP_STORE: return write(p, p.now.a);
                case OP_STORE_INDEX: return write(p, p.now.x[order.r]);
                case OP_KEEP: return write(p, p.now.pointers[order.r].pack());
                case OP_GO: case OP_GO_ALIKE: case OP_GO_UNLIKE: case OP_GO_BELOW: case OP_GO_NOT_BELOW:
                    return goes(p.now.condition) ? go(p) : NO_FAULT;
                case OP_INDEX_ADDRESS:
                    p.now.x[order.r] = address.word;
                    return NO_FAULT;
                case OP_POINT: return point(p);
                case OP_CALL: return enter(p);
                case OP_RETURN: return leave(p);
                case OP_TRY_READ: return tryAccess(p, READ);
                case OP_TRY_WRITE: return tryAccess(p, WRITE);
                case OP_SAY: return say(p);
                case OP_RESUME: return resume(p);
                default: return takeOperand(p);
            }
        }

        private int halt(ProcessState p) {
            p.status = HALTED;
            next.copy(p.now.place);
            return NO_FAULT;
        }

        private int write(ProcessState p, int v) {
            int fault = ask(p, WRITE);
            Segment segment = p.segmentAt(address.number);
            if (fault == NO_FAULT && segment != null) {
                segment.write(address.word, v);
            }
            return fault;
        }

        private int takeOperand(ProcessState p) {
            if (order.mode == IMMEDIATE) {
                useOperand(p.now, address.word);
                return NO_FAULT;
            }
            int fault = ask(p, READ);
            if (fault == NO_FAULT) {
                useOperand(p.now, wordAtAddress(p));
            }
            return fault;
        }

        private void useOperand(Registers now, int operand) {
            switch (order.op) {
                case OP_LOAD: now.a = operand; break;
                case OP_ADD: now.a += operand; break;
                case OP_SUB: now.a -= operand; break;
                case OP_MUL: now.a *= operand; break;
                case OP_AND: now.a &= operand; break;
                case OP_OR: now.a |= operand; break;
                case OP_XOR: now.a ^= operand; break;
                case OP_COMPARE:
                    now.condition = now.a < operand ? -1 : now.a > operand ? 1 : 0;
                    break;
                case OP_LOAD_INDEX: now.x[order.r] = operand; break;
                default: break;
            }
        }

        private boolean goes(int condition) {
            switch (order.op) {
                case OP_GO_ALIKE: return condition == 0;
                case OP_GO_UNLIKE: return condition != 0;
                case OP_GO_BELOW: return condition == -1;
                case OP_GO_NOT_BELOW: return condition != -1;
                default: return true;
            }
        }

        private int go(ProcessState p) {
            int fault = ask(p, EXECUTE);
            if (fault != NO_FAULT) {
                return fault;
            }
            if (address.ring != p.now.place.ring) {
                return WRONG_RING;
            }
            next.copy(address);
            return NO_FAULT;
        }

        private int point(ProcessState p) {
            if (!fits16Bits(address.word)) {
                return OUTSIDE_SEGMENT;
            }
            p.now.pointers[order.r].copy(address);
            return NO_FAULT;
        }

        private int enter(ProcessState p) {
            Segment segment = p.segmentAt(address.number);
            if (segment == null) {
                return NOT_KNOWN;
            }
            int ring = Math.min(address.ring, segment.r2);
            int fault = askCall(p, segment, ring);
            if (fault != NO_FAULT) {
                return fault;
            }
            // Until here next is the place behind the call.
            p.now.pointers[7].copy(next);
            p.now.pointers[0].set(ring, ring, 0);
            next.set(ring, address.number, address.word);
            p.calls++;
            return NO_FAULT;
        }

        private int askCall(ProcessState p, Segment segment, int newRing) {
            if (!segment.hasWord(address.word)) {
                return OUTSIDE_SEGMENT;
            }
            if (!segment.hasFlag(p.user, EXECUTE_FLAG)) {
                return EXECUTE_REFUSED;
            }
            if (address.number != p.now.place.number && address.word >= segment.gates) {
                return NOT_A_GATE;
            }
            if (address.ring < segment.r1) {
                return BELOW_BRACKETS;
            }
            if (address.ring > segment.r3) {
                return ABOVE_BRACKETS;
            }
            return newRing > p.now.place.ring ? WRONG_RING : NO_FAULT;
        }

        private int leave(ProcessState p) {
            int fault = ask(p, READ);
            if (fault != NO_FAULT) {
                return fault;
            }
            int pointerWord = wordAtAddress(p);
            int ring = Place.ringOf(pointerWord);
            if (ring < p.now.place.ring) {
                return RETURN_INWARDS;
            }
            address.unpack(ring, pointerWord);
            fault = ask(p, EXECUTE);
            if (fault != NO_FAULT) {
                return fault;
            }
            next.copy(address);
            p.now.raisePointers(ring);
            p.returns++;
            return NO_FAULT;
        }

        private int tryAccess(ProcessState p, int how) {
            p.now.condition = ask(p, how) == NO_FAULT ? 0 : 1;
            return NO_FAULT;
        }

        private int say(ProcessState p) {
            if (p.now.place.ring != 0) {
                return NOT_RING_0;
            }
            spoken.add(p.now.a);
            return NO_FAULT;
        }

        private int resume(ProcessState p) {
            if (p.now.place.ring != 0) {
                return NOT_RING_0;
            }
            if (!p.hasSaved) {
                return BAD_ORDER;
            }
            int further = p.now.x[1] == 0 ? 0 : 1;
            p.bringBack();
            next.copy(p.now.place);
            next.word += further;
            return NO_FAULT;
        }
    }
}
