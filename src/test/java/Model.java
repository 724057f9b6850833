import java.util.ArrayList;
import java.util.Arrays;
import java.util.HashMap;
import java.util.List;
import java.util.Map;

/**
 * The document read a second time, in another way than RingWarden: faults are exceptions, and a step that faults
 * is taken back as a whole from a copy.
 */
final class Model {
    static final class Fault extends Exception {
        private static final long serialVersionUID = 1L;
        final int kind;
        final int[] address;

        Fault(int kind, int[] address) {
            this.kind = kind;
            this.address = address.clone();
        }
    }

    static final class Seg {
        int id;
        int name;
        int[] words;
        int[] r = new int[3];
        int gates;
        int[] flags = new int[4];
        Map<Integer, Integer> definitions = new HashMap<>();
        Map<Integer, int[]> links = new HashMap<>();
    }

    /** What a fault saves: place 0 to 2, A 3, X1 to X3 4 to 6, condition 7, pointers from 8 on. */
    static final class Proc {
        int user;
        int status = 1;
        int[] reg = new int[32];
        int[] saved;
        int[] handler;
        List<Seg> knows = new ArrayList<>();
        Map<String, int[]> linked = new HashMap<>();
        int[] lastFault = new int[4];
        int steps;
        int faults;
        int calls;
        int returns;
    }

    final List<Seg> segments = new ArrayList<>();
    final Proc[] processes = new Proc[4];
    final List<Integer> said = new ArrayList<>();

    private Seg seg(int s) {
        return s >= 0 && s < segments.size() ? segments.get(s) : null;
    }

    private Proc proc(int p) {
        return p >= 0 && p < 4 ? processes[p] : null;
    }

    int segment(int name, int words) {
        boolean taken = segments.stream().anyMatch(s -> s.name == name);
        if (segments.size() == 32 || words < 1 || words > 256 || taken) {
            return -1;
        }
        Seg s = new Seg();
        s.id = segments.size();
        s.name = name;
        s.words = new int[words];
        segments.add(s);
        return s.id;
    }

    boolean brackets(int s, int r1, int r2, int r3, int gates) {
        if (seg(s) == null || r1 < 0 || r2 < r1 || r3 < r2 || r3 > 7 || gates < 0 || gates > seg(s).words.length) {
            return false;
        }
        seg(s).r = new int[] {r1, r2, r3};
        seg(s).gates = gates;
        return true;
    }

    boolean flags(int s, int user, int flags) {
        if (seg(s) == null || user < 0 || user > 3 || flags < 0 || flags > 7) {
            return false;
        }
        seg(s).flags[user] = flags;
        return true;
    }

    boolean word(int s, int k, int v) {
        if (seg(s) == null || k < 0 || k >= seg(s).words.length) {
            return false;
        }
        seg(s).words[k] = v;
        return true;
    }

    boolean define(int s, int symbol, int k) {
        if (seg(s) == null || k < 0 || k >= seg(s).words.length || seg(s).definitions.size() == 16) {
            return false;
        }
        return seg(s).definitions.putIfAbsent(symbol, k) == null;
    }

    boolean link(int s, int k, int name, int symbol) {
        if (seg(s) == null || k < 0 || k > 15) {
            return false;
        }
        seg(s).links.put(k, new int[] {name, symbol});
        return true;
    }

    boolean start(int p, int s, int k, int ring) {
        if (p < 0 || p > 3 || seg(s) == null || ring < 0 || ring > 7 || k < 0 || k > 65535) {
            return false;
        }
        Proc q = new Proc();
        q.user = p;
        for (int i = 0; i < 8; i++) {
            Seg stack = new Seg();
            stack.id = -2;
            stack.words = new int[64];
            stack.r = new int[] {i, i, i};
            stack.flags = new int[] {3, 3, 3, 3};
            q.knows.add(stack);
            q.reg[8 + 3 * i] = ring;
        }
        q.knows.add(seg(s));
        q.reg[0] = ring;
        q.reg[1] = 8;
        q.reg[2] = k;
        processes[p] = q;
        return true;
    }

    int handler(int p, int s, int k) {
        if (proc(p) == null || seg(s) == null || k < 0 || k > 65535) {
            return -1;
        }
        int number = know(proc(p), seg(s));
        proc(p).handler = new int[] {0, number, k};
        return number;
    }

    private static int know(Proc q, Seg s) {
        if (!q.knows.contains(s)) {
            q.knows.add(s);
        }
        return q.knows.indexOf(s);
    }

    int run(int p, int n) {
        if (proc(p) == null || n < 0 || n > 500) {
            return -1;
        }
        int done = 0;
        for (; done < n && proc(p).status == 1; done++) {
            step(proc(p));
        }
        return done;
    }

    int state(int p, int what) {
        Proc q = proc(p);
        if (q == null) {
            return 0;
        }
        int[] all = {q.status, q.reg[0], q.reg[1], q.reg[2], q.reg[3], q.reg[4], q.reg[5], q.reg[6], q.reg[7],
            q.lastFault[0], q.lastFault[1], q.lastFault[2], q.lastFault[3], q.steps, q.faults, q.saved == null ? 0 : 1,
            q.knows.size(), q.calls, q.returns};
        return what >= 0 && what < all.length ? all[what] : 0;
    }

    int pointer(int p, int n, int what) {
        return proc(p) == null || n < 0 || n > 7 || what < 0 || what > 2 ? -1 : proc(p).reg[8 + 3 * n + what];
    }

    private static Seg known(Proc q, int number) {
        return q != null && number >= 0 && number < q.knows.size() ? q.knows.get(number) : null;
    }

    int peek(int p, int number, int k) {
        Seg s = known(proc(p), number);
        return s == null || k < 0 || k >= s.words.length ? 0 : s.words[k];
    }

    int stored(int s, int k) {
        return seg(s) == null || k < 0 || k >= seg(s).words.length ? 0 : seg(s).words[k];
    }

    int known(int p, int number) {
        Seg s = known(proc(p), number);
        return s == null ? -1 : s.id;
    }

    int may(int p, int ring, int number, int how) {
        Seg s = known(proc(p), number);
        return s == null || ring < 0 || ring > 7 || how < 0 || how > 2 ? -1 : can(s, p, ring, how) ? 1 : 0;
    }

    int said(int i) {
        return i >= 0 && i < said.size() && i < 200 ? said.get(i) : 0;
    }

    int sayings() {
        return said.size();
    }

    private static boolean can(Seg s, int user, int e, int how) {
        boolean flag = (s.flags[user] >> how & 1) == 1;
        boolean ring = how == 0 ? e <= s.r[1] : how == 1 ? e <= s.r[0] : e >= s.r[0] && e <= s.r[1];
        return flag && ring;
    }

    private static Seg reach(Proc q, int[] address, int how) throws Fault {
        Seg s = known(q, address[1]);
        if (s == null) {
            throw new Fault(1, address);
        }
        if (address[2] < 0 || address[2] >= s.words.length) {
            throw new Fault(2, address);
        }
        if (!can(s, q.user, address[0], how)) {
            throw new Fault(3 + how, address);
        }
        return s;
    }

    private static int read(Proc q, int[] address) throws Fault {
        return reach(q, address, 0).words[address[2]];
    }

    private void step(Proc q) {
        q.steps++;
        int[] before = q.reg.clone();
        int callsBefore = q.calls;
        int returnsBefore = q.returns;
        try {
            q.reg[2]++;
            perform(q, Arrays.copyOf(before, 3));
        } catch (Fault fault) {
            q.reg = before;
            q.calls = callsBefore;
            q.returns = returnsBefore;
            take(q, fault);
        }
    }

    private static void take(Proc q, Fault fault) {
        q.faults++;
        q.lastFault = new int[] {fault.kind, fault.address[0], fault.address[1], fault.address[2]};
        if (q.handler == null) {
            q.status = 3;
        } else if (q.saved != null) {
            q.status = 4;
        } else {
            q.saved = q.reg.clone();
            System.arraycopy(q.handler, 0, q.reg, 0, 3);
            q.reg[3] = fault.kind;
            q.reg[11] = fault.address[0];
            q.reg[12] = fault.address[1];
            q.reg[13] = fault.address[2] & 0xFFFF;
        }
    }

    private void perform(Proc q, int[] place) throws Fault {
        int w = reach(q, place, 2).words[place[2]];
        int op = w >>> 27;
        int mode = w >>> 24 & 3;
        int r = w >>> 16 & 7;
        boolean bare = op == 0 || op == 24 || op == 25;
        boolean noMode3 = op == 2 || op >= 10 && op <= 14 || op == 16 || op >= 18 && op <= 23;
        if (op > 25 || !bare && mode == 3 && ((w >>> 26 & 1) == 1 || noMode3)
            || op >= 15 && op <= 17 && (r == 0 || r > 3)) {
            throw new Fault(13, place);
        }
        if (bare) {
            performBare(q, op, place);
            return;
        }
        int[] address = mode == 3 ? null : address(q, w, place);
        int immediate = mode == 3 ? (short) w + x(q, w) : 0;
        if (op <= 9 && op != 2 || op == 15) {
            int operand = address == null ? immediate : read(q, address);
            if (op == 15) {
                q.reg[3 + r] = operand;
            } else if (op == 9) {
                q.reg[7] = Integer.compare(q.reg[3], operand);
            } else {
                q.reg[3] = compute(op, q.reg[3], operand);
            }
        } else if (op == 17) {
            q.reg[3 + r] = address == null ? immediate : address[2];
        } else {
            performAt(q, op, r, address, place);
        }
    }

    private static int x(Proc q, int w) {
        int x = w >>> 19 & 3;
        return x == 0 ? 0 : q.reg[3 + x];
    }

    private static int compute(int op, int a, int b) {
        switch (op) {
            case 1: return b;
            case 3: return a + b;
            case 4: return a - b;
            case 5: return a * b;
            case 6: return a & b;
            case 7: return a | b;
            default: return a ^ b;
        }
    }

    private void performBare(Proc q, int op, int[] place) throws Fault {
        if (op == 0) {
            q.status = 2;
            q.reg[2] = place[2];
            return;
        }
        if (place[0] != 0) {
            throw new Fault(14, place);
        }
        if (op == 24) {
            said.add(q.reg[3]);
            return;
        }
        if (q.saved == null) {
            throw new Fault(13, place);
        }
        boolean further = q.reg[4] != 0;
        q.reg = q.saved;
        q.saved = null;
        q.reg[2] += further ? 1 : 0;
    }

    private int[] address(Proc q, int w, int[] place) throws Fault {
        int n = 8 + 3 * (w >>> 21 & 7);
        int offset = (short) w;
        int[] a = {place[0], place[1], offset};
        int mode = w >>> 24 & 3;
        if (mode == 1) {
            a = new int[] {Math.max(place[0], q.reg[n]), q.reg[n + 1], q.reg[n + 2] + offset};
        } else if (mode == 2) {
            int[] to = linked(q, known(q, place[1]), offset);
            if (to == null) {
                throw new Fault(12, a);
            }
            a = new int[] {place[0], to[0], to[1]};
        }
        a[2] += x(q, w);
        boolean again = (w >>> 26 & 1) == 1;
        for (int count = 1; again; count++) {
            if (count == 9) {
                throw new Fault(11, a);
            }
            int pointer = read(q, a);
            int e = Math.max(Math.max(a[0], pointer >>> 28 & 7), known(q, a[1]).r[0]);
            a = new int[] {e, pointer >>> 16 & 0xFFF, pointer & 0xFFFF};
            again = pointer < 0;
        }
        return a;
    }

    private int[] linked(Proc q, Seg from, int k) {
        String key = from.id + "/" + k;
        if (q.linked.containsKey(key)) {
            return q.linked.get(key);
        }
        int[] link = from.links.get(k);
        if (link == null) {
            return null;
        }
        for (Seg s : segments) {
            if (s.name == link[0] && s.flags[q.user] != 0 && s.definitions.containsKey(link[1])) {
                q.linked.put(key, new int[] {know(q, s), s.definitions.get(link[1])});
            }
        }
        return q.linked.get(key);
    }

    private void performAt(Proc q, int op, int r, int[] address, int[] place) throws Fault {
        int condition = q.reg[7];
        int p = 8 + 3 * r;
        switch (op) {
            case 2: reach(q, address, 1).words[address[2]] = q.reg[3]; break;
            case 16: reach(q, address, 1).words[address[2]] = q.reg[3 + r]; break;
            case 19:
                reach(q, address, 1).words[address[2]] = q.reg[p] << 28 | q.reg[p + 1] << 16 | q.reg[p + 2];
                break;
            case 10: go(q, address, place, true); break;
            case 11: go(q, address, place, condition == 0); break;
            case 12: go(q, address, place, condition != 0); break;
            case 13: go(q, address, place, condition == -1); break;
            case 14: go(q, address, place, condition != -1); break;
            case 18:
                if (address[2] < 0 || address[2] > 65535) {
                    throw new Fault(2, address);
                }
                System.arraycopy(address, 0, q.reg, p, 3);
                break;
            case 20: call(q, address, place); break;
            case 21: leave(q, address, place); break;
            default: q.reg[7] = attempt(q, address, op - 22) ? 0 : 1; break;
        }
    }

    private static boolean attempt(Proc q, int[] address, int how) {
        try {
            reach(q, address, how);
            return true;
        } catch (Fault fault) {
            return false;
        }
    }

    private static void go(Proc q, int[] address, int[] place, boolean goes) throws Fault {
        if (!goes) {
            return;
        }
        reach(q, address, 2);
        if (address[0] != place[0]) {
            throw new Fault(9, address);
        }
        System.arraycopy(address, 0, q.reg, 0, 3);
    }

    private static void call(Proc q, int[] address, int[] place) throws Fault {
        Seg s = known(q, address[1]);
        int e = address[0];
        int kind = s == null ? 1 : address[2] < 0 || address[2] >= s.words.length ? 2 : (s.flags[q.user] & 4) == 0 ? 5
            : address[1] != place[1] && address[2] >= s.gates ? 6 : e < s.r[0] ? 7 : e > s.r[2] ? 8
            : Math.min(e, s.r[1]) > place[0] ? 9 : 0;
        if (kind != 0) {
            throw new Fault(kind, address);
        }
        int ring = Math.min(e, s.r[1]);
        int[] changed = {ring, ring, 0, place[0], place[1], place[2] + 1, ring, address[1], address[2]};
        System.arraycopy(changed, 0, q.reg, 8, 3);
        System.arraycopy(changed, 3, q.reg, 29, 3);
        System.arraycopy(changed, 6, q.reg, 0, 3);
        q.calls++;
    }

    private static void leave(Proc q, int[] address, int[] place) throws Fault {
        int pointer = read(q, address);
        int[] to = {pointer >>> 28 & 7, pointer >>> 16 & 0xFFF, pointer & 0xFFFF};
        if (to[0] < place[0]) {
            throw new Fault(10, address);
        }
        reach(q, to, 2);
        System.arraycopy(to, 0, q.reg, 0, 3);
        for (int i = 8; i < 32; i += 3) {
            q.reg[i] = Math.max(q.reg[i], to[0]);
        }
        q.returns++;
    }
}
