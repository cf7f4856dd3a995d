/** Promises 15 to 18 and 28: runs, and what each instruction and each call does in them. */
public final class RunTest {
    private static final Due due = new Due();
    private static final long MIN = Long.MIN_VALUE, MAX = Long.MAX_VALUE;
    private static final long IMIN = 0x80000000L, IMAX = 0x7fffffffL, ONES32 = 0xffffffffL;

    private static Words w() {
        return new Words();
    }

    /** What a program answers, on a box of its own. */
    private static long of(String what, Words w) {
        ProgramBox x = new ProgramBox();
        due.is(what + ": load", w.into(x), 0);
        due.is(what + ": run", x.run(0, 1000), ProgramBox.EXIT);
        due.is(what + ": breaches", x.breaches(), 0);
        return x.result();
    }

    /** Operation n of class 7 and 4 on x and y, y being in a register. */
    private static void op(int n, int o, long x, long y, long wide, long narrow) {
        for (int group : new int[] {7, 4}) {
            String what = "operation " + n + "/" + o + " class " + group + " of " + x + " and " + y;
            Words w = w().wide(0, x).wide(1, y).put(n << 4 | 8 | group, 0, 1, o, 0).exit();
            due.is(what, of(what, w), group == 7 ? wide : narrow);
            if (y == (int) y) {
                w = w().wide(0, x).put(n << 4 | group, 0, 0, o, (int) y).exit();
                due.is(what + " by i", of(what, w), group == 7 ? wide : narrow);
            }
            // of a rest, and of a quotient by 0, the check says less
            boolean byNothing = n == 3 && (group == 7 ? y : (int) y) == 0;
            if (o == 0 && n != 9 && !byNothing) {
                w = w().wide(0, x).wide(1, y).put(n << 4 | 8 | group, 0, 1, o, 0);
                known(what, w, group == 7 ? wide : narrow);
            }
        }
    }

    /** The check knows that register 0 has just this number: the way on which it has another would be refused. */
    private static void known(String what, Words w, long n) {
        ProgramBox x = new ProgramBox();
        due.is(what + ": known", w.wide(3, n).jumpBy(1, 0, 3, 1).copy(0, 9).exit().into(x), 0);
    }

    private static void operations() {
        op(0, 0, MAX, 1, MIN, 0);
        op(0, 0, IMAX, 1, IMIN, IMIN);
        op(0, 0, 5, -7, -2, 0xfffffffeL);
        op(1, 0, 5, 7, -2, 0xfffffffeL);
        op(1, 0, MIN, 1, MAX, ONES32);
        op(2, 0, MAX, 2, -2, 0xfffffffeL);
        op(2, 0, 0x100000001L, 0x100000001L, 0x200000001L, 1);
        op(2, 0, -3, 5, -15, 0xfffffff1L);
        op(3, 0, -1, 10, 0x1999999999999999L, 0x19999999L);
        op(3, 0, 17, 5, 3, 3);
        op(3, 0, 17, 0, 0, 0);
        op(3, 0, MIN, -1, 0, 0);
        op(3, 0, -1, -1, 1, 1);
        op(3, 0, -1, MIN, 1, 0);
        op(3, 0, 0x500000000L, 0x700000000L, 0, 0);
        op(3, 1, -17, 5, -3, 0xfffffffdL);
        op(3, 1, 17, -5, -3, 0xfffffffdL);
        op(3, 1, -17, -5, 3, 3);
        op(3, 1, -17, 0, 0, 0);
        op(3, 1, MIN, -1, MIN, 0);
        op(3, 1, IMIN, -1, -IMIN, IMIN);
        op(3, 1, 0x100000009L, 2, 0x80000004L, 4);
        op(9, 0, -1, 10, 5, 5);
        op(9, 0, -1, 7, 1, 3);
        op(9, 0, 17, 0, 17, 17);
        op(9, 0, -17, 0, -17, 0xffffffefL);
        op(9, 0, MIN, -1, MIN, 0);
        op(9, 0, -1, MIN, MAX, ONES32);
        op(9, 0, 0x100000011L, 5, 3, 2);
        op(9, 1, -17, 5, -2, 0xfffffffeL);
        op(9, 1, 17, -5, 2, 2);
        op(9, 1, -17, 0, -17, 0xffffffefL);
        op(9, 1, MIN, -1, 0, 0);
        op(9, 1, IMIN, -1, 0, 0);
        op(4, 0, 0xf0f0f0f0f0L, 0x0f0000000fL, 0xfff0f0f0ffL, 0xf0f0f0ffL);
        op(4, 0, 1, -2, -1, ONES32);
        op(5, 0, 0xf0f0f0f0f0L, -16, 0xf0f0f0f0f0L, 0xf0f0f0f0L);
        op(10, 0, 0xf0f0f0f0f0L, -1, ~0xf0f0f0f0f0L, 0x0f0f0f0fL);
        op(6, 0, 3, 62, 0xc000000000000000L, 0xc0000000L);
        op(6, 0, 3, 64, 3, 3);
        op(6, 0, 3, 31, 3L << 31, IMIN);
        op(6, 0, 3, 32, 3L << 32, 3);
        op(6, 0, 3, -1, MIN, IMIN);
        op(7, 0, -1, 63, 1, 1);
        op(7, 0, -1, 64, -1, ONES32);
        op(7, 0, 0xf00000000L, 4, 0xf0000000L, 0);
        op(12, 0, -16, 2, -4, 0xfffffffcL);
        op(12, 0, IMIN, 4, IMIN >> 4, 0xf8000000L);
        op(12, 0, MIN, 63, -1, 0);
        op(12, 0, MIN, 65, MIN >> 1, 0);
        op(11, 0, 5, -9, -9, 0xfffffff7L);
        due.is("a move of more than 32 bits", of("move", w().wide(1, 0x123456789L).by32(11, 0, 1).exit()), 0x23456789L);
        for (int group : new int[] {7, 4}) {
            boolean wide = group == 7;
            known("negation", w().wide(0, 5).put(0x80 | group, 0, 0, 0, 0), wide ? -5 : 0xfffffffbL);
            known("negation", w().wide(0, IMIN).put(0x80 | group, 0, 0, 0, 0), wide ? -IMIN : IMIN);
            due.is("negation", of("negation", w().wide(0, 5).put(0x80 | group, 0, 0, 0, 0).exit()), wide ? -5 : 0xfffffffbL);
            due.is("negation", of("negation", w().wide(0, MIN).put(0x80 | group, 0, 0, 0, 0).exit()), wide ? MIN : 0);
            due.is("negation", of("negation", w().wide(0, IMIN).put(0x80 | group, 0, 0, 0, 0).exit()), wide ? -IMIN : IMIN);
        }
    }

    private static void signsAndTurns() {
        long n = 0x0123456789abcdf0L;
        long[] wide = {-16, (short) 0xcdf0, 0xffffffff89abcdf0L};
        for (int k = 0; k < 3; k++) {
            due.is("with sign", of("with sign", w().wide(1, n).put(0xbf, 0, 1, 8 << k, 0).exit()), wide[k]);
            known("with sign", w().wide(1, n).put(0xbf, 0, 1, 8 << k, 0), wide[k]);
            if (k < 2) {
                known("with sign", w().wide(1, n).put(0xbc, 0, 1, 8 << k, 0), wide[k] & ONES32);
                due.is("with sign", of("with sign", w().wide(1, n).put(0xbc, 0, 1, 8 << k, 0).exit()), wide[k] & ONES32);
            }
            due.is("no sign", of("no sign", w().wide(1, 0x70).put(0xbf, 0, 1, 8 << k, 0).exit()), 0x70);
        }
        long[] cut = {0xcdf0L, 0x89abcdf0L, n};
        long[] turned = {0xf0cdL, 0xf0cdab89L, 0xf0cdab8967452301L};
        for (int k = 0; k < 3; k++) {
            known("13", w().wide(0, n).put(0xd7, 0, 0, 0, 16 << k), turned[k]);
            known("13, class 4", w().wide(0, n).put(0xd4, 0, 0, 0, 16 << k), cut[k]);
            known("13, class 4, bit 3", w().wide(0, n).put(0xdc, 0, 0, 0, 16 << k), turned[k]);
            due.is("13", of("13", w().wide(0, n).put(0xd7, 0, 0, 0, 16 << k).exit()), turned[k]);
            due.is("13, class 4", of("13", w().wide(0, n).put(0xd4, 0, 0, 0, 16 << k).exit()), cut[k]);
            due.is("13, class 4, bit 3", of("13", w().wide(0, n).put(0xdc, 0, 0, 0, 16 << k).exit()), turned[k]);
        }
        due.is("two places", of("two places", w().wide(0, 0x8000000080000000L).exit()), 0x8000000080000000L);
        known("two places", w().wide(0, 0x80000000L), 0x80000000L);
        known("two places", w().wide(0, 0x7fffffff00000000L).set(7, 0, 32), 0x7fffffffL);
        known("i with its sign", w().move(0, -2), -2);
        known("i cut to 32 bits", w().put(0xb4, 0, 0, 0, -2), 0xfffffffeL);
        due.is("the lowest with its sign adds nothing", of("two places", w().wide(0, 0xffffffffL).exit()), 0xffffffffL);
    }

    /** Comparison n of x and y of class 5 and 6, with a register and, if it can be, with i. */
    private static void holds(int n, long x, long y, boolean wide, boolean narrow) {
        for (int group : new int[] {5, 6}) {
            String what = "jump " + n + " class " + group + " by " + x + " and " + y;
            // numbers from memory, of which the check says nothing
            Words w = w().load(8, 2, 1, 16).load(8, 3, 1, 24).move(0, 1).put(n << 4 | 8 | group, 2, 3, 1, 0).move(0, 0).exit();
            due.is(what, in(what, w, x, y), (group == 5 ? wide : narrow) ? 1 : 0);
            if (y == (int) y) {
                w = w().load(8, 2, 1, 16).move(0, 1).put(n << 4 | group, 2, 0, 1, (int) y).move(0, 0).exit();
                due.is(what + " by i", in(what, w, x, y), (group == 5 ? wide : narrow) ? 1 : 0);
                w = w().wide(2, x).move(0, 1).put(n << 4 | group, 2, 0, 1, (int) y).move(0, 0).exit();
                due.is(what + " known", in(what, w, x, y), (group == 5 ? wide : narrow) ? 1 : 0);
            }
        }
    }

    private static long in(String what, Words w, long x, long y) {
        ProgramBox box = new ProgramBox();
        due.is(what + ": load", w.into(box), 0);
        box.context(16, x);
        box.context(24, y);
        due.is(what + ": run", box.run(0, 100), ProgramBox.EXIT);
        due.is(what + ": breaches", box.breaches(), 0);
        return box.result();
    }

    private static void jumps() {
        long[] numbers = {0, 1, 2, -1, -2, MIN, MAX, IMIN, IMAX, ONES32, 0x100000000L, 0x100000001L, -0x100000000L, 6};
        for (long x : numbers) {
            for (long y : numbers) {
                int s = Long.compare(x, y), u = Long.compareUnsigned(x, y);
                int si = Integer.compare((int) x, (int) y), ui = Integer.compareUnsigned((int) x, (int) y);
                holds(1, x, y, s == 0, si == 0);
                holds(2, x, y, u > 0, ui > 0);
                holds(3, x, y, u >= 0, ui >= 0);
                holds(4, x, y, (x & y) != 0, ((int) x & (int) y) != 0);
                holds(5, x, y, s != 0, si != 0);
                holds(6, x, y, s > 0, si > 0);
                holds(7, x, y, s >= 0, si >= 0);
                holds(10, x, y, u < 0, ui < 0);
                holds(11, x, y, u <= 0, ui <= 0);
                holds(12, x, y, s < 0, si < 0);
                holds(13, x, y, s <= 0, si <= 0);
            }
        }
        due.is("go", of("go", w().move(0, 1).go(1).move(0, 2).exit()), 1);
        due.is("go far", of("go far", w().move(0, 1).goFar(1).move(0, 2).exit()), 1);
        due.is("go back", of("go back", w().go(2).move(0, 7).exit().go(-3)), 7);
        due.is("go far back", of("go far back", w().goFar(2).move(0, 7).exit().goFar(-3)), 7);
    }

    private static void memory() {
        for (int z = 1; z <= 8; z *= 2) {
            long all = z == 8 ? -1 : (1L << 8 * z) - 1;
            long n = 0x8796a5b4c3d2e1f0L;
            long low = n & all, signed = n << 64 - 8 * z >> 64 - 8 * z;
            due.is("stack " + z, of("stack", w().wide(2, n).store(z, 10, -16, 2).load(z, 0, 10, -16).exit()), low);
            if (z < 8) {
                due.is("stack, with sign " + z, of("stack", w().wide(2, n).store(z, 10, -16, 2).loadSigned(z, 0, 10, -16).exit()), signed);
            }
            due.is("stack, i " + z, of("stack", w().storeNumber(z, 10, -16, -2).load(z, 0, 10, -16).exit()), -2 & all);
            due.is("others stay " + z, of("stack", w().storeNumber(8, 10, -16, -1).storeNumber(z, 10, -16, 0).load(8, 0, 10, -16).exit()),
                    ~all);
            ProgramBox x = new ProgramBox();
            w().needs(8).load(z, 0, 6, 0).storeNumber(z, 6, 8 - z, 0x1234567).wide(3, n).store(z, 1, 32, 3).exit().into(x);
            Words.packet(x, 0xf0, 0xe1, 0xd2, 0xc3, 0xb4, 0xa5, 0x96, 0x87);
            x.context(32, 0);
            x.run(0, 99);
            due.is("packet " + z, x.result(), low);
            due.is("packet, written " + z, x.at(8 - z), 0x67);
            due.is("packet, written " + z, x.at(7), z == 1 ? 0x67 : z == 2 ? 0x45 : z == 4 ? 1 : 0);
            due.is("packet, what is not written stays " + z, x.at(0), z == 8 ? 0x67 : 0xf0);
            due.is("context, written " + z, x.field(32), low);
            x.run(0, 9);
            due.is("changes stay also with FUEL", x.result(), low);
        }
        ProgramBox x = new ProgramBox();
        w().load(8, 0, 1, 16).exit().into(x);
        w().load(4, 0, 1, 20).exit().into(x);
        w().loadSigned(1, 0, 1, 63).exit().into(x);
        x.context(16, 0x1122334455667788L);
        x.context(56, MIN);
        x.run(0, 9);
        due.is("context", x.result(), 0x1122334455667788L);
        x.run(1, 9);
        due.is("context", x.result(), 0x11223344L);
        x.run(2, 9);
        due.is("context", x.result(), -128);
        addresses();
    }

    private static void addresses() {
        due.is("an address from a slot", of("slot", w().store(8, 10, -8, 10).load(8, 2, 10, -8).storeNumber(8, 2, -16, 6)
                .load(8, 0, 10, -16).exit()), 6);
        ProgramBox x = new ProgramBox();
        w().load(8, 6, 1, 0).load(8, 7, 1, 8).move(0, 0).copy(8, 6).add(8, 3).jumpBy(10, 8, 7, 4).add(0, 1).jumpBy(11, 8, 7, 3)
                .add(0, 2).exit().add(0, 4).add(0, 8).exit().into(x);
        int[] want = {3, 3, 3, 9, 12, 12};
        for (int n = 0; n < 6; n++) {
            Words.packet(x, new int[n]);
            x.run(0, 99);
            due.is("3 and the end of " + n, x.result(), want[n]);
        }
    }

    private static Words found() {
        return w().copy(9, 1).storeNumber(4, 10, -4, 1).copy(2, 10).add(2, -4).map(1, 0).call(1).jump(5, 0, 0, 2).out(-1).copy(6, 0);
    }

    /** What becomes of the number at the value's begin, of OLD and of register 0. */
    private static void atomic(int i, int z, long old, long y, long zero, long then, long got) {
        ProgramBox x = new ProgramBox();
        x.make(0, 4, 16, 2);
        due.is("atomic: load", found().wide(2, y).wide(0, zero).atomic(z, 6, 8, 2, i).store(8, 9, 32, 0).store(8, 9, 40, 2)
                .out(0).into(x), 0);
        x.lay(0, 1);
        x.lay(16, old);
        x.update(0, 0, 8, 0);
        due.is("atomic: run", x.run(0, 99), 0);
        String what = "atomic " + i + " of " + z + " bytes, " + old + " and " + y;
        due.is(what, x.area(24), then);
        due.is(what + ": the other eight", x.area(16), 0);
        due.is(what + ": register 0", x.field(32), i == 241 ? got : zero);
        due.is(what + ": register s", x.field(40), i != 241 && i % 2 == 1 ? got : y);
        due.is(what + ": breaches", x.breaches(), 0);
    }

    private static void atomics() {
        long old = 0xf1f2f3f4f5f6f7f8L, low = 0xf5f6f7f8L, high = 0xf1f2f3f400000000L;
        for (int one = 0; one < 2; one++) {
            atomic(one, 8, old, 0x1111111111111111L, 3, old + 0x1111111111111111L, old);
            atomic(one, 4, old, 0x11111111L, 3, high | 0x07080909L, low);
            atomic(64 | one, 8, old, 0x0f0f, 3, old | 0x0f0f, old);
            atomic(64 | one, 4, old, -1, 3, high | ONES32, low);
            atomic(80 | one, 8, old, 0xffff, 3, 0xf7f8L, old);
            atomic(80 | one, 4, old, 0xffff, 3, high | 0xf7f8L, low);
            atomic(160 | one, 8, old, -1, 3, ~old, old);
            atomic(160 | one, 4, old, -1, 3, high | ~low & ONES32, low);
        }
        atomic(225, 8, old, 77, 3, 77, old);
        atomic(225, 4, old, -77, 3, high | -77 & ONES32, low);
        atomic(241, 8, old, 77, old, 77, old);
        atomic(241, 8, old, 77, low, old, old);
        atomic(241, 4, old, 77, low, high | 77, low);
        atomic(241, 4, old, 77, 0x700000000L | low, high | 77, low);
        atomic(241, 4, old, 77, 5, old, low);
    }

    private static void calls() {
        ProgramBox x = new ProgramBox();
        x.make(1, 8, 8, 2);
        Words key = w().load(8, 3, 1, 16).store(8, 10, -8, 3).load(8, 3, 1, 24).store(8, 10, -16, 3).copy(2, 10).add(2, -8).copy(3, 10)
                .add(3, -16).load(8, 4, 1, 40).map(1, 0).call(2).exit();
        due.is("put: load", key.into(x), 0);
        due.is("drop: load", w().copy(2, 1).load(8, 3, 1, 16).store(8, 10, -8, 3).copy(2, 10).add(2, -8).map(1, 0).call(3).exit()
                .into(x), 1);
        due.is("seek: load", w().load(8, 3, 1, 16).store(8, 10, -8, 3).copy(2, 10).add(2, -8).map(1, 0).call(1).jump(1, 0, 0, 1)
                .load(8, 0, 0, 0).exit().into(x), 2);
        long[][] calls = {{0, 5, 50, 0, 0}, {0, 5, 51, 1, -17}, {0, 5, 52, 2, 0}, {0, 6, 60, 2, -2}, {0, 6, 61, 1, 0}, {0, 7, 70, 0, -7},
            {0, 7, 70, 2, -2}, {0, 7, 70, 3, -22}, {0, 7, 70, -1, -22}, {0, 5, 53, 0x700000002L, 0}, {0, 5, 53, 0x100000000L, 0},
            {2, 5, 0, 0, 53}, {2, 6, 0, 0, 61}, {2, 7, 0, 0, 0}, {1, 7, 0, 0, -2}, {1, 5, 0, 0, 0}, {1, 5, 0, 0, -2}, {2, 5, 0, 0, 0},
            {0, 8, 80, 0, 0}, {2, 8, 0, 0, 80}};
        for (int k = 0; k < calls.length; k++) {
            x.context(16, calls[k][1]);
            x.context(24, calls[k][2]);
            x.context(40, calls[k][3]);
            x.run((int) calls[k][0], 99);
            due.is("map call " + k, x.result(), calls[k][4]);
        }
        due.is("the first free entry", x.area(0), 80);
        due.is("breaches", x.breaches(), 0);
        overlaps();
        trims();
    }

    /** Key and value of a put stand in the value that it writes: they count as they were before. */
    private static void overlaps() {
        ProgramBox x = new ProgramBox();
        x.make(1, 8, 16, 2);
        due.is("overlap: load", w().storeNumber(8, 10, -8, 1).copy(2, 10).add(2, -8).map(1, 0).call(1).jump(5, 0, 0, 2).out(-1)
                .copy(2, 0).copy(3, 0).move(4, 0).map(1, 0).call(2).exit().into(x), 0);
        x.lay(0, 1);
        x.lay(8, 1);
        x.lay(16, 0x99);
        x.update(0, 0, 8, 0);
        x.run(0, 99);
        due.is("overlap", x.result(), 0);
        due.is("overlap", x.area(0), 1);
        due.is("overlap", x.area(8), 0x99);
        ProgramBox y = new ProgramBox();
        y.make(0, 4, 8, 4);
        y.make(1, 8, 8, 4);
        due.is("key in its own value: load", w().storeNumber(4, 10, -4, 0).copy(2, 10).add(2, -4).map(1, 0).call(1).jump(5, 0, 0, 2)
                .out(-1).copy(2, 0).storeNumber(8, 10, -16, 3).copy(3, 10).add(3, -16).move(4, 0).map(1, 0).call(2).exit().into(y), 0);
        y.run(0, 99);
        due.is("key in its own value", y.area(0), 3);
        due.is("key in its own value", y.area(24), 0);
        y.run(0, 99);
        due.is("the key is the entry 3 now", y.area(24), 3);
    }

    private static void trims() {
        ProgramBox x = new ProgramBox();
        w().load(8, 2, 1, 16).call(6).exit().into(x);
        w().copy(9, 1).move(2, 2).call(6).load(8, 6, 9, 0).load(8, 7, 9, 8).copy(8, 6).add(8, 3).move(0, 3).jumpBy(11, 8, 7, 3)
                .copy(8, 6).add(8, 2).move(0, 1).exit().into(x);
        long[][] trims = {{5, 0, 5}, {6, -22, 5}, {-1, -22, 5}, {MIN, -22, 5}, {4, 0, 4}, {5, -22, 4}, {0, 0, 0}, {0, 0, 0}, {1, -22, 0}};
        Words.packet(x, 1, 2, 3, 4, 5);
        for (long[] t : trims) {
            x.context(16, t[0]);
            x.run(0, 9);
            due.is("trim to " + t[0], x.result(), t[1]);
            due.is("10 size", x.size(), t[2]);
            due.index("11 at behind it", x, () -> x.at((int) t[2]));
        }
        Words.packet(x, 1, 2, 3, 4, 5);
        x.run(1, 99);
        due.is("the end moves with it", x.result(), 1);
        due.is("11 what is left stays", x.at(1), 2);
        due.is("10 size", x.size(), 2);
    }

    private static void runs() {
        ProgramBox x = new ProgramBox();
        due.index("15 no program", x, () -> x.run(0, 5));
        due.argument("15 no program, no fuel", x, () -> x.run(0, -1));
        w().wide(0, 7).add(0, 1).exit().into(x);
        w().move(0, 1).go(-1).exit().into(x);
        for (int program : new int[] {-1, 2, 8, Integer.MAX_VALUE, Integer.MIN_VALUE}) {
            due.index("15 program " + program, x, () -> x.run(program, 5));
        }
        for (int fuel : new int[] {-1, 100001, Integer.MAX_VALUE, Integer.MIN_VALUE}) {
            due.argument("15 fuel " + fuel, x, () -> x.run(0, fuel));
            due.argument("15 fuel " + fuel + ", no program", x, () -> x.run(2, fuel));
        }
        int[][] want = {{0, 1, 0}, {1, 1, 2}, {2, 1, 3}, {3, 0, 3}, {4, 0, 3}, {100000, 0, 3}};
        for (int[] v : want) {
            due.is("15 fuel " + v[0], x.run(0, v[0]), v[1]);
            due.is("17 place", x.place(), v[2]);
            due.is("18 steps: two places are one", x.steps(), Math.min(3, v[0]));
            due.is("16 result", x.result(), v[1] == 0 ? 8 : 0);
        }
        due.is("15 without an end", x.run(1, 100000), ProgramBox.FUEL);
        due.is("18 steps", x.steps(), 100000);
        due.is("17 place", x.place(), 1);
        due.is("16 the result of the latest EXIT", x.result(), 8);
        due.is("15 without fuel", x.run(1, 0), ProgramBox.FUEL);
        due.is("18 steps", x.steps(), 0);
        due.is("17 place", x.place(), 0);
        x.run(0, 3);
        due.index("a call that throws changes nothing", x, () -> x.run(5, 3));
        due.is("18 steps", x.steps(), 3);
        due.is("28 breaches", x.breaches(), 0);
    }

    /** The counts of breaches, which no program that is let in can bring; so these are run without a check. */
    private static void breaches() {
        breach("a register without one", 1, w().copy(3, 2).out(0));
        breach("the result without one", 1, w().exit());
        breach("registers behind a call", 2, w().call(5).copy(3, 1).copy(4, 5).exit());
        breach("eight bytes of the stack", 8, w().load(8, 0, 10, -8).exit());
        breach("four of eight", 4, w().storeNumber(4, 10, -8, 1).load(8, 0, 10, -8).exit());
        breach("ahead of the stack", 8, w().storeNumber(8, 10, -520, 1).out(0));
        breach("over the end of the stack", 4, w().storeNumber(8, 10, -4, 1).out(0));
        breach("behind the context", 3, w().load(4, 0, 1, 63).exit());
        breach("behind the packet", 2, w().load(8, 6, 1, 0).load(4, 0, 6, 3).exit());
        breach("ahead of the packet", 1, w().load(8, 6, 1, 0).storeNumber(1, 6, -1, 0).out(0));
        breach("behind the packet, trimmed", 4, w().load(8, 6, 1, 0).move(2, 1).call(6).load(4, 0, 6, 1).exit());
        breach("nowhere", 8, w().move(2, 0).load(8, 0, 2, 0).exit());
        breach("a key that is not written", 4, w().copy(2, 10).add(2, -4).map(1, 0).call(1).out(0));
        breach("behind a value", 2, found().load(4, 0, 6, 10).exit());
        breach("behind a table's value", 2, w().storeNumber(4, 10, -4, 1).copy(2, 10).add(2, -4).map(1, 1).call(1).load(4, 0, 0, 10).exit());
        breach("a value to which it was not led", 4, w().storeNumber(4, 10, -4, 1).copy(2, 10).add(2, -4).map(1, 1).call(1)
                .load(4, 0, 0, 16).exit());
        breach("an array's other value", 0, found().load(4, 0, 6, -16).exit());
        breach("no multiple", 1, found().move(1, 1).atomic(4, 6, 2, 1, 0).out(0));
        breach("no place", 1, w().go(5).out(0));
        breach("a second place", 1, w().go(1).wide(0, 0).exit());
        breach("none", 0, w().storeNumber(8, 10, -8, 1).load(8, 0, 10, -8).exit());
    }

    private static void breach(String what, int count, Words w) {
        ProgramBox.Store store = new ProgramBox.Store();
        store.addMap(0, 4, 12, 2);
        store.addMap(1, 4, 12, 2);
        store.deskBytes[0] = 1;
        store.map(1).put(store.deskBytes, 0, store.deskBytes, 16, 0);
        store.packetSize = 5;
        ProgramBox.Machine machine = new ProgramBox.Machine(store);
        byte[] row = w.bytes();
        machine.go(new ProgramBox.Program(row, row.length), 50);
        due.is("28 breaches: " + what, machine.breachCount, count);
    }

    public static void main(String[] args) {
        operations();
        signsAndTurns();
        jumps();
        memory();
        atomics();
        calls();
        runs();
        breaches();
        due.end("answers of runs");
    }
}
