import java.util.ArrayList;
import java.util.Arrays;
import java.util.List;

/**
 * A second reading of what runs do: registers and slots keep what sort of thing they have, so that it fails where
 * a program that was let in would touch what is not its own, and can be held against what Model says of each place.
 */
final class Runner {
    /** kind: "number", "context", "stack", "packet", "end", "map", "value" (n: from its begin on). */
    record Word(String kind, int map, int entry, long n) {
    }

    static final class Failure extends RuntimeException {
        private static final long serialVersionUID = 1;

        Failure(String text) {
            super(text);
        }
    }

    static final class Map {
        Model.Shape shape;
        int start;
        List<byte[]> keys = new ArrayList<>();
        long head, tail;
        int records;

        int stride() {
            return (shape.value() + 7) / 8 * 8;
        }

        int entry(byte[] key) {
            if (shape.kind() == 0) {
                long n = 0;
                for (int k = 3; k >= 0; k--) {
                    n = n * 256 + (key[k] & 255);
                }
                return n < shape.entries() ? (int) n : -1;
            }
            for (int e = 0; e < keys.size(); e++) {
                if (keys.get(e) != null && Arrays.equals(keys.get(e), key)) {
                    return e;
                }
            }
            return -1;
        }

        int used() {
            if (shape.kind() == 0) {
                return shape.entries();
            }
            if (shape.kind() == 2) {
                return (int) (head - tail);
            }
            int count = 0;
            for (byte[] key : keys) {
                count += key == null ? 0 : 1;
            }
            return count;
        }
    }

    final List<Map> maps = new ArrayList<>();
    final byte[] area = new byte[65536];
    final byte[] context = new byte[64];
    byte[] packet = new byte[0];
    long time;
    long result;
    int place, steps;

    private Word[] regs;
    private Word[] slots;
    private byte[] stack;
    private boolean[] written;
    private List<Model.Ins> program;
    private Model model;

    void add(Model.Shape shape) {
        Map map = new Map();
        map.shape = shape;
        for (Map m : maps) {
            map.start += m.shape.kind() == 2 ? m.shape.entries() : m.stride() * m.shape.entries();
        }
        for (int e = 0; e < shape.entries(); e++) {
            map.keys.add(null);
        }
        maps.add(map);
    }

    static Word num(long n) {
        return new Word("number", 0, 0, n);
    }

    /** True when it ended with EXIT. */
    boolean run(List<Model.Ins> program, Model model, int fuel) {
        this.program = program;
        this.model = model;
        regs = new Word[11];
        slots = new Word[64];
        stack = new byte[512];
        written = new boolean[512];
        regs[1] = new Word("context", 0, 0, 0);
        regs[10] = new Word("stack", 0, 0, 0);
        place = 0;
        steps = 0;
        while (steps < fuel) {
            Model.Ins x = program.get(place);
            hold(place);
            steps++;
            if (x.code() == 149) {
                result = number(0);
                return true;
            }
            place = step(x);
        }
        return false;
    }

    /** What is there must be among what the check said that may be there. */
    private void hold(int p) {
        Model.State s = model.states[p];
        if (s == null) {
            throw new Failure("no state at place " + p);
        }
        if (s.known > packet.length) {
            throw new Failure("known " + s.known + " of a packet of " + packet.length + " at " + p);
        }
        for (int k = 0; k < 11; k++) {
            hold(s.regs[k], regs[k], "register " + k + " at " + p);
        }
        for (int k = 0; k < 64; k++) {
            if (!s.slots[k].is("NOTHING")) {
                hold(s.slots[k], slot(k), "slot " + k + " at " + p);
            }
            for (int b = 8 * k; b < 8 * k + 8; b++) {
                if (s.hasNumber(b) && !written[b]) {
                    throw new Failure("byte " + b + " of the stack at " + p);
                }
            }
        }
    }

    private Word slot(int j) {
        if (slots[j] != null) {
            return slots[j];
        }
        long n = 0;
        for (int k = 7; k >= 0; k--) {
            n = n << 8 | stack[8 * j + k] & 255;
        }
        return num(n);
    }

    private static boolean has(ProgramBox.Value v, long n) {
        return (n & v.mask) == v.ones && Long.compareUnsigned(n, v.low) >= 0 && Long.compareUnsigned(n, v.high) <= 0
                && n >= v.least && n <= v.greatest;
    }

    private void hold(Model.Thing t, Word w, String where) {
        boolean fits;
        switch (t.sort) {
            case "NOTHING": fits = true; break;
            case "NUMBER": fits = w != null && w.kind.equals("number") && has(t.v, w.n); break;
            case "CONTEXT": fits = w != null && w.kind.equals("context") && w.n == t.c; break;
            case "STACK": fits = w != null && w.kind.equals("stack") && w.n == t.c; break;
            case "PACKET": fits = w != null && w.kind.equals("packet") && has(t.v, w.n); break;
            case "END": fits = w != null && w.kind.equals("end"); break;
            case "MAP": fits = w != null && w.kind.equals("map") && w.map == t.map; break;
            case "ITEM": fits = w != null && w.kind.equals("value") && w.map == t.map && has(t.v, w.n); break;
            default:
                fits = w != null && (w.kind.equals("number") && w.n == 0
                        || w.kind.equals("value") && w.map == t.map && w.n == 0);
                break;
        }
        if (!fits) {
            throw new Failure(where + " is " + w + ", not " + t.sort);
        }
    }

    private Word get(int r) {
        if (regs[r] == null) {
            throw new Failure("register " + r + " has nothing at " + place);
        }
        return regs[r];
    }

    private long number(int r) {
        if (!get(r).kind.equals("number")) {
            throw new Failure("register " + r + " has no number at " + place);
        }
        return regs[r].n;
    }

    private int step(Model.Ins x) {
        int next = place + 1;
        switch (x.group()) {
            case 0:
                long high = program.get(place + 1).i();
                regs[x.d()] = x.s() == 1 ? new Word("map", x.i(), 0, 0) : num(high << 32 | x.i() & 0xFFFFFFFFL);
                return place + 2;
            case 1: regs[x.d()] = load(x); return next;
            case 2: store(get(x.d()), x.o(), x.z(), num(x.i())); return next;
            case 3:
                if (x.mode() == 3) {
                    store(get(x.d()), x.o(), x.z(), get(x.s()));
                } else {
                    atomic(x);
                }
                return next;
            case 5: case 6:
                if (x.code() == 5) {
                    return next + x.o();
                }
                if (x.code() == 6) {
                    return next + x.i();
                }
                if (x.code() == 133) {
                    call(x.i());
                    return next;
                }
                return jumps(x) ? next + x.o() : next;
            default:
                reckon(x);
                return next;
        }
    }

    private byte byteAt(Word w, long o) {
        long a = w.n + o;
        switch (w.kind) {
            case "context":
                return context[index(a, 16, 64)];
            case "packet":
                return packet[index(a, 0, packet.length)];
            case "value":
                Map map = maps.get(w.map);
                return area[map.start + w.entry * map.stride() + index(a, 0, map.shape.value())];
            case "stack":
                int b = index(a + 512, 0, 512);
                if (!written[b] || slots[b / 8] != null && !slots[b / 8].kind.equals("number")) {
                    throw new Failure("byte " + b + " of the stack is not to be read at " + place);
                }
                return slots[b / 8] != null ? (byte) (slots[b / 8].n >> 8 * (b % 8)) : stack[b];
            default:
                throw new Failure(w + " is no address at " + place);
        }
    }

    private int index(long a, int from, int to) {
        if (a < from || a >= to) {
            throw new Failure("byte " + a + " at " + place);
        }
        return (int) a;
    }

    private Word load(Model.Ins x) {
        Word w = get(x.s());
        if (w.kind.equals("context") && x.z() == 8 && w.n + x.o() == 0) {
            return new Word("packet", 0, 0, 0);
        }
        if (w.kind.equals("context") && x.z() == 8 && w.n + x.o() == 8) {
            return new Word("end", 0, 0, 0);
        }
        if (w.kind.equals("stack") && x.z() == 8 && (w.n + x.o()) % 8 == 0) {
            int b = index(w.n + x.o() + 512, 0, 505);
            if (slots[b / 8] != null) {
                return slots[b / 8];
            }
        }
        long n = 0;
        for (int k = x.z() - 1; k >= 0; k--) {
            n = n << 8 | byteAt(w, x.o() + k) & 255;
        }
        if (x.mode() == 4) {
            n = x.z() == 1 ? (byte) n : x.z() == 2 ? (short) n : (int) n;
        }
        return num(n);
    }

    private void store(Word w, long o, int z, Word y) {
        long a = w.n + o;
        if (w.kind.equals("stack") && z == 8) {
            int b = index(a + 512, 0, 505);
            if (b % 8 != 0) {
                throw new Failure("a slot is missed at " + place);
            }
            slots[b / 8] = y;
            Arrays.fill(written, b, b + 8, true);
            return;
        }
        if (!y.kind.equals("number")) {
            throw new Failure("an address is laid open at " + place);
        }
        for (int k = 0; k < z; k++) {
            byte v = (byte) (y.n >> 8 * k);
            switch (w.kind) {
                case "context": context[index(a + k, 32, 64)] = v; break;
                case "packet": packet[index(a + k, 0, packet.length)] = v; break;
                case "value":
                    Map map = maps.get(w.map);
                    area[map.start + w.entry * map.stride() + index(a + k, 0, map.shape.value())] = v;
                    break;
                case "stack": storeStack(index(a + k + 512, 0, 512), v); break;
                default: throw new Failure(w + " is no address at " + place);
            }
        }
    }

    private void storeStack(int b, byte v) {
        int j = b / 8;
        if (slots[j] != null) {
            for (int k = 0; k < 8; k++) {
                written[8 * j + k] = slots[j].kind.equals("number");
                stack[8 * j + k] = (byte) (slots[j].n >> 8 * k);
            }
            slots[j] = null;
        }
        stack[b] = v;
        written[b] = true;
    }

    private void atomic(Model.Ins x) {
        Word w = get(x.d());
        int z = x.z();
        if (!w.kind.equals("value") || (w.n + x.o()) % z != 0) {
            throw new Failure("an atomic one at " + w + " at " + place);
        }
        long y = number(x.s()), old = 0;
        for (int k = z - 1; k >= 0; k--) {
            old = old << 8 | byteAt(w, x.o() + k) & 255;
        }
        long then;
        switch (x.i()) {
            case 0: case 1: then = old + y; break;
            case 64: case 65: then = old | y; break;
            case 80: case 81: then = old & y; break;
            case 160: case 161: then = old ^ y; break;
            case 225: then = y; break;
            default: then = old == (z == 4 ? number(0) & 0xFFFFFFFFL : number(0)) ? y : old; break;
        }
        store(w, x.o(), z, num(then));
        if (x.i() == 241) {
            regs[0] = num(old);
        } else if (x.i() % 2 == 1) {
            regs[x.s()] = num(old);
        }
    }

    private boolean jumps(Model.Ins x) {
        Word a = get(x.d()), b = x.y() ? get(x.s()) : num(x.i());
        if (a.kind.equals("packet") && b.kind.equals("end") || a.kind.equals("end") && b.kind.equals("packet")) {
            long p = a.kind.equals("packet") ? a.n : packet.length, q = b.kind.equals("packet") ? b.n : packet.length;
            return x.n() == 2 ? p > q : x.n() == 3 ? p >= q : x.n() == 10 ? p < q : p <= q;
        }
        if (a.kind.equals("value") && b.kind.equals("number") && b.n == 0 && (x.n() == 1 || x.n() == 5)) {
            return x.n() == 5;
        }
        if (!a.kind.equals("number") || !b.kind.equals("number")) {
            throw new Failure("a jump by " + a + " and " + b + " at " + place);
        }
        long p = a.n, q = b.n;
        int u = Long.compareUnsigned(p, q), s = Long.compare(p, q);
        if (x.group() == 6) {
            u = Integer.compareUnsigned((int) p, (int) q);
            s = Integer.compare((int) p, (int) q);
            p = (int) p;
            q = (int) q;
        }
        switch (x.n()) {
            case 1: return s == 0;
            case 2: return u > 0;
            case 3: return u >= 0;
            case 4: return (p & q) != 0;
            case 5: return s != 0;
            case 6: return s > 0;
            case 7: return s >= 0;
            case 10: return u < 0;
            case 11: return u <= 0;
            case 12: return s < 0;
            default: return s <= 0;
        }
    }

    private void reckon(Model.Ins x) {
        boolean wide = x.group() == 7;
        if (x.n() == 11 && wide && x.o() == 0) {
            regs[x.d()] = x.y() ? get(x.s()) : num(x.i());
            return;
        }
        Word a = x.n() == 11 ? num(0) : get(x.d());
        Word b = x.n() == 13 || x.n() == 8 || !x.y() ? num(x.i()) : get(x.s());
        if (!a.kind.equals("number") || !b.kind.equals("number")) {
            if (!wide || x.n() > 1) {
                throw new Failure("reckoning with " + a + " and " + b + " at " + place);
            }
            Word base = a.kind.equals("number") ? b : a;
            long n = x.n() == 0 ? a.n + b.n : a.n - b.n;
            regs[x.d()] = new Word(base.kind, base.map, base.entry, n);
            return;
        }
        long n;
        if (x.n() == 13) {
            n = turned(x, a.n);
        } else {
            n = wide ? longs(x, a.n, b.n) : ints(x, (int) a.n, (int) b.n) & 0xFFFFFFFFL;
        }
        regs[x.d()] = num(n);
    }

    private static long turned(Model.Ins x, long n) {
        boolean turns = x.group() == 7 || x.y();
        switch (x.i()) {
            case 16: return turns ? Short.reverseBytes((short) n) & 0xFFFFL : n & 0xFFFFL;
            case 32: return turns ? Integer.reverseBytes((int) n) & 0xFFFFFFFFL : n & 0xFFFFFFFFL;
            default: return turns ? Long.reverseBytes(n) : n;
        }
    }

    private static long longs(Model.Ins x, long a, long b) {
        switch (x.n()) {
            case 0: return a + b;
            case 1: return a - b;
            case 2: return a * b;
            case 3: return b == 0 ? 0 : x.o() == 1 ? a / b : Long.divideUnsigned(a, b);
            case 4: return a | b;
            case 5: return a & b;
            case 6: return a << (b & 63);
            case 7: return a >>> (b & 63);
            case 8: return -a;
            case 9: return b == 0 ? a : x.o() == 1 ? a % b : Long.remainderUnsigned(a, b);
            case 10: return a ^ b;
            case 11: return x.o() == 8 ? (byte) b : x.o() == 16 ? (short) b : x.o() == 32 ? (int) b : b;
            default: return a >> (b & 63);
        }
    }

    private static int ints(Model.Ins x, int a, int b) {
        switch (x.n()) {
            case 0: return a + b;
            case 1: return a - b;
            case 2: return a * b;
            case 3: return b == 0 ? 0 : x.o() == 1 ? a / b : Integer.divideUnsigned(a, b);
            case 4: return a | b;
            case 5: return a & b;
            case 6: return a << (b & 31);
            case 7: return a >>> (b & 31);
            case 8: return -a;
            case 9: return b == 0 ? a : x.o() == 1 ? a % b : Integer.remainderUnsigned(a, b);
            case 10: return a ^ b;
            case 11: return x.o() == 8 ? (byte) b : x.o() == 16 ? (short) b : b;
            default: return a >> (b & 31);
        }
    }

    private byte[] bytes(Word w, int n) {
        byte[] row = new byte[n];
        for (int k = 0; k < n; k++) {
            row[k] = byteAt(w, k);
        }
        return row;
    }

    private void call(int i) {
        Word answer;
        switch (i) {
            case 1: {
                Map map = maps.get(get(1).map);
                int e = map.entry(bytes(get(2), map.shape.key()));
                answer = e < 0 ? num(0) : new Word("value", get(1).map, e, 0);
                break;
            }
            case 2: {
                Map map = maps.get(get(1).map);
                byte[] key = bytes(get(2), map.shape.key()), value = bytes(get(3), map.shape.value());
                answer = num(put(map, key, value, (int) number(4)));
                break;
            }
            case 3: {
                Map map = maps.get(get(1).map);
                int e = map.entry(bytes(get(2), map.shape.key()));
                if (e >= 0) {
                    map.keys.set(e, null);
                }
                answer = num(e < 0 ? -2 : 0);
                break;
            }
            case 4:
                answer = num(send(maps.get(get(1).map), bytes(get(2), (int) number(3))));
                break;
            case 5:
                answer = num(time++);
                break;
            default:
                boolean fits = Long.compareUnsigned(number(2), packet.length) <= 0;
                packet = fits ? Arrays.copyOf(packet, (int) number(2)) : packet;
                answer = num(fits ? 0 : -22);
                break;
        }
        Arrays.fill(regs, 1, 6, null);
        regs[0] = answer;
    }

    private int put(Map map, byte[] key, byte[] value, int flags) {
        if (flags < 0 || flags > 2) {
            return -22;
        }
        int e = map.entry(key);
        if (map.shape.kind() == 0 && e < 0) {
            return -7;
        }
        if (e >= 0 && flags == 1) {
            return -17;
        }
        if (e < 0 && flags == 2) {
            return -2;
        }
        if (e < 0) {
            e = map.keys.indexOf(null);
            if (e < 0) {
                return -7;
            }
            map.keys.set(e, key);
        }
        System.arraycopy(value, 0, area, map.start + e * map.stride(), value.length);
        return 0;
    }

    private int send(Map map, byte[] bytes) {
        int all = (8 + bytes.length + 7) / 8 * 8, n = map.shape.entries();
        if (map.head - map.tail + all > n) {
            return -11;
        }
        byte[] record = new byte[all];
        for (int k = 0; k < 4; k++) {
            record[k] = (byte) (bytes.length >> 8 * k);
            record[4 + k] = (byte) (map.records >> 8 * k);
        }
        System.arraycopy(bytes, 0, record, 8, bytes.length);
        for (int k = 0; k < all; k++) {
            area[map.start + (int) ((map.head + k) % n)] = record[k];
        }
        map.head += all;
        map.records++;
        return 0;
    }
}
