import java.util.ArrayList;
import java.util.Arrays;
import java.util.List;

/**
 * A second reading of the parts PROGRAMS and CHECK, slow and with many objects, to hold the program against.
 * What it takes from the program are the values and what is made of them, which ValueTest looks at.
 */
final class Model {
    /** The shape of a map. */
    record Shape(int kind, int key, int value, int entries) {
    }

    /** One place. */
    record Ins(int code, int d, int s, int o, int i) {
        int group() {
            return code % 8;
        }

        int n() {
            return code / 16;
        }

        boolean y() {
            return code / 8 % 2 == 1;
        }

        int z() {
            return new int[] {4, 2, 1, 8}[code / 8 % 4];
        }

        int mode() {
            return code / 32;
        }
    }

    /** A thing; v only for "NUMBER", "PACKET", "ITEM". */
    static final class Thing {
        final String sort;
        final int map;
        final long c;
        final ProgramBox.Value v;

        Thing(String sort, int map, long c, ProgramBox.Value v) {
            this.sort = sort;
            this.map = map;
            this.c = c;
            this.v = v;
        }

        boolean is(String s) {
            return sort.equals(s);
        }

        boolean alike(Thing t) {
            return sort.equals(t.sort) && map == t.map && c == t.c;
        }

        boolean same(Thing t) {
            return alike(t) && (v == null || v.sameSayings(t.v));
        }
    }

    static final Thing NOTHING = new Thing("NOTHING", 0, 0, null);

    static ProgramBox.Value just(long n) {
        ProgramBox.Value v = new ProgramBox.Value();
        v.just(n);
        return v;
    }

    static ProgramBox.Value anyOf(int bytes) {
        ProgramBox.Value any = new ProgramBox.Value(), v = new ProgramBox.Value();
        any.any();
        v.cut(any, 8 * bytes);
        return v;
    }

    static ProgramBox.Value extend(ProgramBox.Value x, int n) {
        ProgramBox.Value v = new ProgramBox.Value();
        v.extend(x, n);
        return v;
    }

    static ProgramBox.Value cut(ProgramBox.Value x, int n) {
        ProgramBox.Value v = new ProgramBox.Value();
        v.cut(x, n);
        return v;
    }

    static ProgramBox.Value copy(ProgramBox.Value x) {
        ProgramBox.Value v = new ProgramBox.Value();
        v.sayings(x);
        return v;
    }

    static Thing number(ProgramBox.Value v) {
        return new Thing("NUMBER", 0, 0, v);
    }

    /** Slots: a thing, or NOTHING, and then which bytes are written. */
    static final class State {
        Thing[] regs = new Thing[11];
        Thing[] slots = new Thing[64];
        boolean[] written = new boolean[512];
        long known = 0;

        State() {
            Arrays.fill(regs, NOTHING);
            Arrays.fill(slots, NOTHING);
        }

        State copy() {
            State s = new State();
            s.regs = regs.clone();
            s.slots = slots.clone();
            s.written = written.clone();
            s.known = known;
            return s;
        }

        boolean same(State s) {
            boolean same = known == s.known && Arrays.equals(written, s.written);
            for (int k = 0; k < 11; k++) {
                same &= regs[k].same(s.regs[k]);
            }
            for (int k = 0; k < 64; k++) {
                same &= slots[k].same(s.slots[k]);
            }
            return same;
        }

        /** Whether byte b of the stack, from its begin on, has a number. */
        boolean hasNumber(int b) {
            Thing t = slots[b / 8];
            return t.is("NOTHING") ? written[b] : t.is("NUMBER");
        }

        void nothingInSlot(int j) {
            slots[j] = NOTHING;
            for (int b = 8 * j; b < 8 * j + 8; b++) {
                written[b] = false;
            }
        }
    }

    final List<Shape> maps;
    final List<Ins> program = new ArrayList<>();
    State[] states;
    int[] changes;
    int passes;

    private int refusal;
    private boolean brought;

    Model(List<Shape> maps) {
        this.maps = maps;
    }

    /** The place, or -1, and the number. */
    int[] verdict(byte[] tape) {
        int places = (tape.length + 7) / 8;
        program.clear();
        for (int p = 0; p < tape.length / 8; p++) {
            int[] b = new int[8];
            for (int k = 0; k < 8; k++) {
                b[k] = tape[8 * p + k] & 255;
            }
            program.add(new Ins(b[0], b[1] % 16, b[1] / 16, (short) (b[2] + 256 * b[3]),
                    b[4] | b[5] << 8 | b[6] << 16 | b[7] << 24));
        }
        int wrong = wrong(places, tape.length % 8 != 0);
        return wrong >= 0 ? new int[] {wrong, 9} : check();
    }

    private int wrong(int places, boolean partial) {
        if (places == 0) {
            return 0;
        }
        boolean[] second = new boolean[places + 1];
        for (int p = 0; p < places; p++) {
            if (second[p]) {
                continue;
            }
            if (p == places - 1 && partial) {
                return p;
            }
            if (!stands(program.get(p))) {
                return p;
            }
            if (program.get(p).code == 24) {
                if (p + 1 >= program.size()) {
                    return p;
                }
                Ins two = program.get(p + 1);
                if (two.code != 0 || two.d != 0 || two.s != 0 || two.o != 0) {
                    return p;
                }
                if (program.get(p).s == 1 && (program.get(p).i < 0 || two.i != 0)) {
                    return p;
                }
                second[p + 1] = true;
            }
        }
        for (int p = 0; p < places; p++) {
            if (second[p]) {
                continue;
            }
            Ins x = program.get(p);
            List<Long> goes = new ArrayList<>();
            if (x.code == 24) {
                goes.add(p + 2L);
            } else if (x.code == 5) {
                goes.add(p + 1L + x.o);
            } else if (x.code == 6) {
                goes.add(p + 1L + x.i);
            } else if (x.code != 149) {
                goes.add(p + 1L);
                if ((x.group() == 5 || x.group() == 6) && x.code != 133) {
                    goes.add(p + 1L + x.o);
                }
            }
            for (long to : goes) {
                if (to < 0 || to >= places || second[(int) to]) {
                    return p;
                }
            }
        }
        return -1;
    }

    private static boolean oneOf(int n, int... of) {
        for (int k : of) {
            if (k == n) {
                return true;
            }
        }
        return false;
    }

    private static boolean stands(Ins x) {
        boolean dRead = x.d <= 10, dGets = x.d <= 9, none = x.d == 0 && x.s == 0;
        switch (x.group()) {
            case 0:
                return x.code == 24 && dGets && x.o == 0 && x.s <= 1;
            case 1:
                return oneOf(x.code, 0x61, 0x69, 0x71, 0x79, 0x81, 0x89, 0x91) && dGets && x.s <= 10 && x.i == 0;
            case 2:
                return oneOf(x.code, 0x62, 0x6a, 0x72, 0x7a) && dRead && x.s == 0;
            case 3:
                if (oneOf(x.code, 0x63, 0x6b, 0x73, 0x7b)) {
                    return dRead && x.s <= 10 && x.i == 0;
                }
                return oneOf(x.code, 0xc3, 0xdb) && dRead
                        && (oneOf(x.i, 0, 64, 80, 160, 241) && x.s <= 10 || oneOf(x.i, 1, 65, 81, 161, 225) && x.s <= 9);
            case 5: case 6:
                if (x.code == 5) {
                    return none && x.i == 0;
                }
                if (x.code == 6 || x.code == 133) {
                    return none && x.o == 0;
                }
                if (x.code == 149) {
                    return none && x.o == 0 && x.i == 0;
                }
                if (!oneOf(x.n(), 1, 2, 3, 4, 5, 6, 7, 10, 11, 12, 13)) {
                    return false;
                }
                return dRead && (x.y() ? x.s <= 10 && x.i == 0 : x.s == 0);
            default:
                break;
        }
        boolean seven = x.group() == 7;
        if (!dGets || x.n() > 13) {
            return false;
        }
        if (x.n() == 13) {
            return x.s == 0 && x.o == 0 && oneOf(x.i, 16, 32, 64) && !(seven && x.y());
        }
        if (x.n() == 8) {
            return !x.y() && x.s == 0 && x.o == 0 && x.i == 0;
        }
        if (x.y() && (x.i != 0 || x.s > 10) || !x.y() && x.s != 0) {
            return false;
        }
        if (oneOf(x.n(), 3, 9) && x.o == 1) {
            return true;
        }
        if (x.n() == 11 && x.y() && (oneOf(x.o, 8, 16) || x.o == 32 && seven)) {
            return true;
        }
        return x.o == 0;
    }

    private int[] check() {
        states = new State[program.size()];
        changes = new int[program.size()];
        states[0] = new State();
        states[0].regs[1] = new Thing("CONTEXT", 0, 0, null);
        states[0].regs[10] = new Thing("STACK", 0, 0, null);
        for (passes = 1; passes <= 256; passes++) {
            brought = false;
            for (int p = 0; p < program.size(); p++) {
                if (states[p] != null) {
                    refusal = 0;
                    go(p);
                    if (refusal != 0) {
                        return new int[] {p, refusal};
                    }
                }
            }
            if (!brought) {
                return new int[] {-1, 0};
            }
        }
        return new int[] {0, 10};
    }

    private void goes(State s, int from, int to) {
        if (states[to] == null) {
            states[to] = s;
            brought = true;
            return;
        }
        State met = meet(states[to], s, changes[to] >= 2 && from >= to);
        if (!met.same(states[to])) {
            states[to] = met;
            changes[to]++;
            brought = true;
        }
    }

    private static Thing meet(Thing x, Thing y, boolean widens) {
        if (!x.alike(y)) {
            return NOTHING;
        }
        if (x.v == null) {
            return x;
        }
        ProgramBox.Value v = new ProgramBox.Value();
        if (widens) {
            v.widen(x.v, y.v);
        } else {
            v.join(x.v, y.v);
        }
        return new Thing(x.sort, x.map, x.c, v);
    }

    private static State meet(State x, State y, boolean widens) {
        State s = new State();
        s.known = Math.min(x.known, y.known);
        for (int k = 0; k < 11; k++) {
            s.regs[k] = meet(x.regs[k], y.regs[k], widens);
        }
        for (int k = 0; k < 64; k++) {
            s.slots[k] = meet(x.slots[k], y.slots[k], widens);
            for (int b = 8 * k; b < 8 * k + 8 && s.slots[k].is("NOTHING"); b++) {
                s.written[b] = x.hasNumber(b) && y.hasNumber(b);
            }
        }
        return s;
    }

    /** Of several numbers, the least. */
    private boolean refuses(boolean when, int number) {
        if (when && (refusal == 0 || number < refusal)) {
            refusal = number;
        }
        return when;
    }

    private void go(int p) {
        Ins x = program.get(p);
        State s = states[p].copy();
        switch (x.group()) {
            case 0:
                if (x.s == 0) {
                    s.regs[x.d] = number(just((x.i & 0xFFFFFFFFL) + ((long) program.get(p + 1).i << 32)));
                } else if (!refuses(x.i >= maps.size(), 8)) {
                    s.regs[x.d] = new Thing("MAP", x.i, 0, null);
                }
                goOn(s, p, p + 2);
                break;
            case 1: load(x, s); goOn(s, p, p + 1); break;
            case 2: store(x, s, number(just(x.i))); goOn(s, p, p + 1); break;
            case 3:
                if (x.mode() == 3) {
                    store(x, s, s.regs[x.s]);
                } else {
                    atomic(x, s);
                }
                goOn(s, p, p + 1);
                break;
            case 5: case 6:
                if (x.code == 5 || x.code == 6) {
                    goOn(s, p, p + 1 + (x.code == 5 ? x.o : x.i));
                } else if (x.code == 149) {
                    refuses(s.regs[0].is("NOTHING"), 1);
                    refuses(!s.regs[0].is("NUMBER"), 6);
                } else if (x.code == 133) {
                    call(x.i, p, s);
                    goOn(s, p, p + 1);
                } else {
                    jump(x, p, s);
                }
                break;
            default: reckon(x, s); goOn(s, p, p + 1); break;
        }
    }

    private void goOn(State s, int from, int to) {
        if (refusal == 0) {
            goes(s, from, to);
        }
    }

    /** The program's own numbers of operations are those of instructions. */
    private static ProgramBox.Value made(int n, ProgramBox.Value x, ProgramBox.Value y, boolean wide) {
        ProgramBox.Value v = new ProgramBox.Value();
        if (wide) {
            v.operate(n, x, y, 63);
            return v;
        }
        v.operate(n, n == 12 ? extend(x, 32) : cut(x, 32), cut(y, 32), 31);
        return cut(v, 32);
    }

    private void reckon(Ins x, State s) {
        boolean wide = x.group() == 7;
        int n = x.n();
        Thing a = s.regs[x.d];
        Thing b = x.y() && n != 13 ? s.regs[x.s] : number(just(x.i));
        if (n == 11) {
            a = b;
        }
        if (n == 8 || n == 13) {
            b = a;
        }
        if (refuses(a.is("NOTHING") || b.is("NOTHING"), 1)) {
            return;
        }
        if (n == 11 && wide && x.o == 0) {
            s.regs[x.d] = b;
            return;
        }
        if (a.is("NUMBER") && b.is("NUMBER")) {
            ProgramBox.Value any = new ProgramBox.Value();
            any.any();
            ProgramBox.Value v;
            if ((n == 3 || n == 9) && x.o == 1) {
                v = wide ? any : cut(any, 32);
            } else if (n == 8) {
                v = made(1, just(0), a.v, wide);
            } else if (n == 11 && x.o > 0) {
                v = wide ? extend(b.v, x.o) : cut(extend(b.v, x.o), 32);
            } else if (n == 13 && (wide || x.y())) {
                v = new ProgramBox.Value();
                v.swap(a.v, x.i);
            } else if (n == 13) {
                v = cut(a.v, x.i);
            } else {
                v = made(n, a.v, b.v, wide);
            }
            s.regs[x.d] = number(v);
            return;
        }
        if (refuses(!wide || n > 1, 2)) {
            return;
        }
        Thing base = a.is("NUMBER") ? b : a;
        Thing by = a.is("NUMBER") ? a : b;
        if (refuses(!by.is("NUMBER") || n == 1 && a.is("NUMBER"), 2)) {
            return;
        }
        long far = 1 << 29;
        if (base.is("PACKET") || base.is("ITEM")) {
            ProgramBox.Value v = made(n, n == 0 ? by.v : base.v, n == 0 ? base.v : by.v, true);
            refuses(v.least < -far || v.greatest > far, 2);
            s.regs[x.d] = new Thing(base.sort, base.map, 0, v);
        } else if (!refuses(!base.is("CONTEXT") && !base.is("STACK") || by.v.low != by.v.high, 2)) {
            java.math.BigInteger m = java.math.BigInteger.valueOf(by.v.low);
            java.math.BigInteger sum = java.math.BigInteger.valueOf(base.c).add(n == 0 ? m : m.negate());
            if (!refuses(sum.abs().compareTo(java.math.BigInteger.valueOf(far)) > 0, 2)) {
                s.regs[x.d] = new Thing(base.sort, 0, sum.longValue(), null);
            }
        }
    }

    /** Whether there are such bytes at the address of a thing, which has one. */
    private boolean inside(Thing t, State s, long o, int n, boolean even, boolean writes) {
        long a = t.c + o;
        if (t.is("STACK")) {
            return a >= -512 && a + n <= 0 && (!even || a % n == 0);
        }
        if (t.is("CONTEXT")) {
            if (a < 0 || a + n > 64 || a % n != 0 || writes && a < 32) {
                return false;
            }
            return a >= 16 || n == 8;
        }
        java.math.BigInteger l = java.math.BigInteger.valueOf(t.v.least).add(java.math.BigInteger.valueOf(o));
        java.math.BigInteger h = java.math.BigInteger.valueOf(t.v.greatest).add(java.math.BigInteger.valueOf(o + n));
        long most = t.is("PACKET") ? s.known : maps.get(t.map).value;
        return l.signum() >= 0 && h.compareTo(java.math.BigInteger.valueOf(most)) <= 0;
    }

    private static boolean hasAddress(Thing t) {
        return t.is("STACK") || t.is("CONTEXT") || t.is("PACKET") || t.is("ITEM");
    }

    private void load(Ins x, State s) {
        Thing t = s.regs[x.s];
        int z = x.z();
        if (refuses(t.is("NOTHING"), 1) || refuses(!hasAddress(t), 3) || refuses(!inside(t, s, x.o, z, true, false), 4)) {
            return;
        }
        Thing got = number(x.mode() == 4 ? extend(anyOf(8), 8 * z) : anyOf(z));
        if (t.is("CONTEXT") && t.c + x.o == 0) {
            got = new Thing("PACKET", 0, 0, just(0));
        }
        if (t.is("CONTEXT") && t.c + x.o == 8) {
            got = new Thing("END", 0, 0, null);
        }
        if (t.is("STACK")) {
            int b = (int) (t.c + x.o + 512);
            if (z == 8 && !s.slots[b / 8].is("NOTHING")) {
                got = s.slots[b / 8];
            } else {
                for (int k = 0; k < z; k++) {
                    refuses(!s.hasNumber(b + k), 5);
                }
            }
        }
        s.regs[x.d] = got;
    }

    private void store(Ins x, State s, Thing y) {
        Thing t = s.regs[x.d];
        int z = x.z();
        boolean nothing = refuses(t.is("NOTHING") || y.is("NOTHING"), 1);
        if (nothing || refuses(!hasAddress(t), 3)) {
            return;
        }
        refuses(!y.is("NUMBER") && !(t.is("STACK") && z == 8), 6);
        if (refuses(!inside(t, s, x.o, z, true, true), 4) || !t.is("STACK")) {
            return;
        }
        int b = (int) (t.c + x.o + 512);
        int j = b / 8;
        if (z == 8) {
            s.nothingInSlot(j);
            s.slots[j] = y;
            return;
        }
        for (int k = 8 * j; k < 8 * j + 8; k++) {
            s.written[k] = s.hasNumber(k) || k >= b && k < b + z;
        }
        s.slots[j] = NOTHING;
    }

    private void atomic(Ins x, State s) {
        Thing t = s.regs[x.d];
        Thing y = s.regs[x.s];
        int z = x.z();
        boolean nothing = t.is("NOTHING") || y.is("NOTHING") || x.i == 241 && s.regs[0].is("NOTHING");
        if (refuses(nothing, 1) || refuses(!t.is("ITEM"), 3)) {
            return;
        }
        boolean even = true;
        for (int k = 0; k < (z == 8 ? 3 : 2); k++) {
            even &= (t.v.mask >> k & 1) == 1;
        }
        refuses(!even || (t.v.low + x.o) % z != 0 || !inside(t, s, x.o, z, true, true), 4);
        refuses(!y.is("NUMBER") || x.i == 241 && !s.regs[0].is("NUMBER"), 6);
        if (x.i == 241) {
            s.regs[0] = number(anyOf(z));
        } else if (x.i % 2 == 1) {
            s.regs[x.s] = number(anyOf(z));
        }
    }

    /** 0 if it tells n bytes, else why not. */
    private int tells(Thing t, State s, int n) {
        if (t.is("NOTHING")) {
            return 1;
        }
        if (!t.is("STACK") && !t.is("PACKET") && !t.is("ITEM")) {
            return 3;
        }
        if (!inside(t, s, 0, n, false, false)) {
            return 4;
        }
        for (int k = 0; k < n && t.is("STACK"); k++) {
            if (!s.hasNumber((int) t.c + 512 + k)) {
                return 5;
            }
        }
        return 0;
    }

    private static int isNumber(Thing t) {
        return t.is("NUMBER") ? 0 : t.is("NOTHING") ? 1 : 8;
    }

    private int callNumber(int i, State s) {
        if (i < 1 || i > 6) {
            return 7;
        }
        if (i == 5) {
            return 0;
        }
        Thing one = s.regs[1], two = s.regs[2], three = s.regs[3];
        if (one.is("NOTHING")) {
            return 1;
        }
        if (i == 6) {
            return one.is("CONTEXT") && one.c == 0 ? isNumber(two) : 8;
        }
        if (!one.is("MAP")) {
            return 8;
        }
        Shape map = maps.get(one.map);
        if (i == 4) {
            if (map.kind != 2) {
                return 8;
            }
            if (isNumber(three) != 0) {
                return isNumber(three);
            }
            if (three.v.least < 1 || three.v.greatest > 256) {
                return 8;
            }
            return tells(two, s, (int) three.v.greatest);
        }
        if (map.kind == 2 || i == 3 && map.kind == 0) {
            return 8;
        }
        int number = tells(two, s, map.key);
        if (number != 0 || i != 2) {
            return number;
        }
        number = tells(three, s, map.value);
        return number != 0 ? number : isNumber(s.regs[4]);
    }

    private void call(int i, int p, State s) {
        int number = callNumber(i, s);
        if (number != 0) {
            refuses(true, number);
            return;
        }
        int map = s.regs[1].map;
        for (int k = 0; k < 11; k++) {
            if (i == 1 && s.regs[k].is("MAYBE") && s.regs[k].c == p
                    || i == 6 && (s.regs[k].is("PACKET") || s.regs[k].is("END"))) {
                s.regs[k] = NOTHING;
            }
        }
        for (int k = 0; k < 64; k++) {
            if (i == 1 && s.slots[k].is("MAYBE") && s.slots[k].c == p
                    || i == 6 && (s.slots[k].is("PACKET") || s.slots[k].is("END"))) {
                s.nothingInSlot(k);
            }
        }
        s.known = i == 6 ? 0 : s.known;
        for (int k = 1; k <= 5; k++) {
            s.regs[k] = NOTHING;
        }
        s.regs[0] = i == 1 ? new Thing("MAYBE", map, p, null) : number(anyOf(8));
    }

    private static Thing settled(Thing t, long place, boolean found) {
        if (!t.is("MAYBE") || t.c != place) {
            return t;
        }
        return found ? new Thing("ITEM", t.map, 0, just(0)) : number(just(0));
    }

    private static State settled(State s, long place, boolean found) {
        State t = s.copy();
        for (int k = 0; k < 11; k++) {
            t.regs[k] = settled(t.regs[k], place, found);
        }
        for (int k = 0; k < 64; k++) {
            t.slots[k] = settled(t.slots[k], place, found);
        }
        return t;
    }

    private static int comparison(int n) {
        int[] of = {1, 2, 3, 4, 5, 6, 7, 10, 11, 12, 13};
        int[] are = {0, 4, 5, 10, 1, 8, 9, 2, 3, 6, 7};
        for (int k = 0; k < of.length; k++) {
            if (of[k] == n) {
                return are[k];
            }
        }
        return -1;
    }

    private static int opposite(int c) {
        int[][] pairs = {{0, 1}, {2, 5}, {3, 4}, {6, 9}, {7, 8}, {10, 11}};
        for (int[] pair : pairs) {
            if (pair[0] == c) {
                return pair[1];
            }
            if (pair[1] == c) {
                return pair[0];
            }
        }
        return -1;
    }

    private static boolean small(ProgramBox.Value v) {
        return v.low >= 0 && v.high >= 0 && v.high <= Integer.MAX_VALUE;
    }

    private void jump(Ins x, int p, State s) {
        Thing a = s.regs[x.d];
        Thing b = x.y() ? s.regs[x.s] : number(x.group() == 5 ? just(x.i) : just(x.i & 0xFFFFFFFFL));
        int to = p + 1 + x.o;
        if (refuses(a.is("NOTHING") || b.is("NOTHING"), 1)) {
            return;
        }
        if (a.is("NUMBER") && b.is("NUMBER")) {
            boolean blind = x.y() && x.d == x.s || x.group() == 6 && (!small(a.v) || !small(b.v));
            State stays = blind ? s : refined(opposite(comparison(x.n())), x, s, a, b);
            State jumps = blind ? s : refined(comparison(x.n()), x, s, a, b);
            if (stays != null) {
                goes(stays, p, p + 1);
            }
            if (jumps != null) {
                goes(jumps, p, to);
            }
            return;
        }
        if (x.group() == 5 && (x.n() == 1 || x.n() == 5) && a.is("MAYBE") && b.is("NUMBER")
                && b.v.low == 0 && b.v.high == 0) {
            goes(settled(s, a.c, x.n() == 1), p, p + 1);
            goes(settled(s, a.c, x.n() == 5), p, to);
            return;
        }
        boolean packet = a.is("PACKET") && b.is("END"), end = a.is("END") && b.is("PACKET");
        if (refuses(x.group() != 5 || !oneOf(x.n(), 2, 3, 10, 11) || !packet && !end, 2)) {
            return;
        }
        // as a comparison of the packet's address with the end
        String c = new String[] {">", ">=", "", "", "", "", "", "", "<", "<="}[x.n() - 2];
        String turned = c.startsWith(">") ? c.replace('>', '<') : c.replace('<', '>');
        c = packet ? c : turned;
        goes(measured(s, packet ? a : b, c.equals(">") ? "<=" : c.equals(">=") ? "<" : ""), p, p + 1);
        goes(measured(s, packet ? a : b, c), p, to);
    }

    private static State measured(State s, Thing packet, String c) {
        State t = s.copy();
        if (packet.v.low == packet.v.high && packet.v.low >= 0 && c.startsWith("<")) {
            t.known = Math.max(t.known, packet.v.low + (c.equals("<") ? 1 : 0));
        }
        return t;
    }

    private static State refined(int c, Ins x, State s, Thing a, Thing b) {
        ProgramBox.Value v = copy(a.v), w = copy(b.v);
        if (!ProgramBox.Value.refine(c, v, w)) {
            return null;
        }
        State t = s.copy();
        t.regs[x.d] = number(v);
        if (x.y()) {
            t.regs[x.s] = number(w);
        }
        return t;
    }
}
