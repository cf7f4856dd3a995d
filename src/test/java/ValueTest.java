import java.math.BigInteger;
import java.util.Random;

/**
 * The part VALUES: sayings are tightened, operations, joins, refinements made as the document tells,
 * against a slow model of it with numbers of any length and loops over the bits.
 */
public final class ValueTest {
    private static final BigInteger ZERO = BigInteger.ZERO, ONE = BigInteger.ONE;
    private static final BigInteger ALL = ONE.shiftLeft(64);
    private static final BigInteger TOP = ALL.subtract(ONE);
    private static final BigInteger LEAST = ONE.shiftLeft(63).negate(), GREATEST = ONE.shiftLeft(63).subtract(ONE);

    private static int wrong = 0;

    /** Sayings: for each bit 0, 1 or -1, and the four bounds; null stands for nothing. */
    private static final class Slow {
        int[] bits = new int[64];
        BigInteger low = ZERO, high = TOP, least = LEAST, greatest = GREATEST;

        Slow() {
            java.util.Arrays.fill(bits, -1);
        }

        Slow copy() {
            Slow s = new Slow();
            s.bits = bits.clone();
            s.low = low;
            s.high = high;
            s.least = least;
            s.greatest = greatest;
            return s;
        }

        boolean single() {
            return low.equals(high);
        }

        @Override
        public String toString() {
            StringBuilder b = new StringBuilder();
            for (int k = 63; k >= 0; k--) {
                b.append(bits[k] < 0 ? "?" : "" + bits[k]);
            }
            return b + " " + low + ".." + high + " " + least + ".." + greatest;
        }
    }

    private static BigInteger unsigned(BigInteger n) {
        return n.mod(ALL);
    }

    private static BigInteger signed(BigInteger n) {
        BigInteger u = n.mod(ALL);
        return u.testBit(63) ? u.subtract(ALL) : u;
    }

    /** The least number from a on, below 2^64, with these bits; null if there is none. */
    private static BigInteger firstFrom(int[] bits, BigInteger a) {
        long from = a.longValue(), known = 0, ones = 0;
        for (int k = 0; k < 64; k++) {
            known |= bits[k] >= 0 ? 1L << k : 0;
            ones |= bits[k] == 1 ? 1L << k : 0;
        }
        if ((from & known) == ones) {
            return a;
        }
        // it has what a has down to some bit, 1 there where a has 0, and is as low as can be below: the lower that bit, the less
        for (int k = 0; k < 64; k++) {
            long above = k == 63 ? 0 : -1L << k + 1, bit = 1L << k;
            boolean fits = ((from ^ ones) & known & above) == 0 && (from & bit) == 0 && bits[k] != 0;
            if (fits) {
                return unsigned(BigInteger.valueOf(from & above | bit | ones & bit - 1));
            }
        }
        return null;
    }

    private static BigInteger lastTo(int[] bits, BigInteger b) {
        int[] turned = new int[64];
        for (int k = 0; k < 64; k++) {
            turned[k] = bits[k] < 0 ? -1 : 1 - bits[k];
        }
        BigInteger n = firstFrom(turned, TOP.subtract(b));
        return n == null ? null : TOP.subtract(n);
    }

    /** The ranges of unsigned numbers that the bounds leave. */
    private static BigInteger[][] ranges(Slow s) {
        BigInteger half = ONE.shiftLeft(63);
        BigInteger[] plus = {s.low.max(s.least), s.high.min(s.greatest).min(GREATEST)};
        plus[0] = plus[0].max(ZERO);
        BigInteger[] minus = {s.low.max(half).max(s.least.add(ALL)), s.high.min(s.greatest.min(ONE.negate()).add(ALL))};
        return new BigInteger[][] {plus, minus};
    }

    private static Slow tight(Slow s) {
        BigInteger[][] ranges = ranges(s);
        BigInteger low = null, high = null, least = null, greatest = null;
        for (int r = 0; r < 2; r++) {
            BigInteger a = firstFrom(s.bits, ranges[r][0].max(ZERO));
            BigInteger b = ranges[r][1].signum() < 0 ? null : lastTo(s.bits, ranges[r][1]);
            if (a == null || b == null || a.compareTo(ranges[r][1]) > 0 || b.compareTo(ranges[r][0]) < 0) {
                continue;
            }
            low = low == null ? a : low;
            high = b;
            least = least == null ? signed(a) : least.min(signed(a));
            greatest = greatest == null ? signed(b) : greatest.max(signed(b));
        }
        if (low == null) {
            return null;
        }
        Slow t = s.copy();
        t.low = low;
        t.high = high;
        t.least = least;
        t.greatest = greatest;
        for (int k = 0; k < 64; k++) {
            if (s.bits[k] < 0) {
                boolean zero = hasWith(s, ranges, k, 0);
                boolean one = hasWith(s, ranges, k, 1);
                t.bits[k] = zero && one ? -1 : one ? 1 : 0;
            }
        }
        return t;
    }

    private static boolean hasWith(Slow s, BigInteger[][] ranges, int k, int bit) {
        int[] bits = s.bits.clone();
        bits[k] = bit;
        for (BigInteger[] range : ranges) {
            if (range[0].compareTo(range[1]) > 0) {
                continue;
            }
            BigInteger n = firstFrom(bits, range[0]);
            if (n != null && n.compareTo(range[1]) <= 0) {
                return true;
            }
        }
        return false;
    }

    private static ProgramBox.Value fast(Slow s) {
        ProgramBox.Value v = new ProgramBox.Value();
        v.any();
        for (int k = 0; k < 64; k++) {
            v.mask |= s.bits[k] >= 0 ? 1L << k : 0;
            v.ones |= s.bits[k] == 1 ? 1L << k : 0;
        }
        v.low = s.low.longValue();
        v.high = s.high.longValue();
        v.least = s.least.longValue();
        v.greatest = s.greatest.longValue();
        return v;
    }

    private static void due(String what, ProgramBox.Value got, Slow want) {
        if (want == null || !got.sameSayings(fast(want))) {
            wrong++;
            if (wrong < 20) {
                System.out.println(what + ": got " + Long.toBinaryString(got.mask) + " " + Long.toBinaryString(got.ones)
                        + " " + Long.toUnsignedString(got.low) + ".." + Long.toUnsignedString(got.high)
                        + " " + got.least + ".." + got.greatest + ", due is " + want);
            }
        }
    }

    private static void due(String what, boolean got, boolean want) {
        if (got != want) {
            wrong++;
            System.out.println(what + ": got " + got + ", due is " + want);
        }
    }

    private static Slow just(BigInteger n) {
        Slow s = new Slow();
        BigInteger u = unsigned(n);
        for (int k = 0; k < 64; k++) {
            s.bits[k] = u.testBit(k) ? 1 : 0;
        }
        s.low = u;
        s.high = u;
        s.least = signed(u);
        s.greatest = signed(u);
        return s;
    }

    private static final long[] EDGES = {0, 1, -1, 2, 3, 7, 8, 31, 32, 33, 63, 64, 65, 255, 256, 511, 1 << 29, -(1 << 29),
        Integer.MAX_VALUE, Integer.MIN_VALUE, 0xFFFFFFFFL, 0x100000000L, 0x80000000L, Long.MAX_VALUE, Long.MIN_VALUE,
        Long.MIN_VALUE + 1, Long.MAX_VALUE - 1, 0xFFFFFFFF00000000L};

    private static long number(Random r) {
        switch (r.nextInt(4)) {
            case 0: return EDGES[r.nextInt(EDGES.length)];
            case 1: return EDGES[r.nextInt(EDGES.length)] + r.nextInt(9) - 4;
            case 2: return r.nextLong() >> r.nextInt(64);
            default: return r.nextLong() >>> r.nextInt(64);
        }
    }

    /** Sayings that may be anything, also without numbers. */
    private static Slow sayings(Random r) {
        Slow s = new Slow();
        int about = r.nextInt(16);
        long known = number(r) & number(r);
        long ones = number(r);
        for (int k = 0; k < 64 && (about & 1) != 0; k++) {
            if ((known >> k & 1) != 0) {
                s.bits[k] = (int) (ones >> k & 1);
            }
        }
        BigInteger a = BigInteger.valueOf(number(r)), b = BigInteger.valueOf(number(r));
        if ((about & 2) != 0) {
            s.low = unsigned(a).min(unsigned(b));
            s.high = unsigned(a).max(unsigned(b));
        }
        a = r.nextBoolean() ? BigInteger.valueOf(number(r)) : a;
        b = r.nextBoolean() ? BigInteger.valueOf(number(r)) : b;
        if ((about & 4) != 0) {
            s.least = a.min(b);
            s.greatest = a.max(b);
        }
        return about == 8 || about == 9 ? just(a) : s;
    }

    private static Slow value(Random r) {
        Slow s = null;
        for (int k = 0; k < 1000 && s == null; k++) {
            s = tight(sayings(r));
        }
        return s == null ? just(ZERO) : s;
    }

    private static void tightens(Random r) {
        Slow s = sayings(r);
        ProgramBox.Value v = fast(s);
        Slow want = tight(s);
        boolean some = v.tighten();
        due("tighten " + s, some, want != null);
        if (want != null) {
            due("tighten " + s, v, want);
        }
    }

    /** By brute force: few open bits, all numbers are tried. */
    private static void tightensByTrying(Random r) {
        Slow s = sayings(r);
        long base = number(r);
        int[] open = new int[r.nextInt(8)];
        for (int k = 0; k < 64; k++) {
            s.bits[k] = (int) (base >> k & 1);
        }
        for (int k = 0; k < open.length; k++) {
            open[k] = r.nextInt(3) == 0 ? 63 : r.nextInt(64);
            s.bits[open[k]] = -1;
        }
        Slow want = null;
        for (int n = 0; n < 1 << open.length; n++) {
            long x = base;
            for (int k = 0; k < open.length; k++) {
                x = x & ~(1L << open[k]) | (long) (n >> k & 1) << open[k];
            }
            BigInteger u = unsigned(BigInteger.valueOf(x)), l = BigInteger.valueOf(x);
            if (u.compareTo(s.low) < 0 || u.compareTo(s.high) > 0 || l.compareTo(s.least) < 0 || l.compareTo(s.greatest) > 0) {
                continue;
            }
            want = want == null ? just(l) : hull(want, just(l));
        }
        ProgramBox.Value v = fast(s);
        due("tighten by trying " + s, v.tighten(), want != null);
        if (want != null) {
            due("tighten by trying " + s, v, want);
        }
    }

    private static Slow hull(Slow x, Slow y) {
        Slow s = new Slow();
        for (int k = 0; k < 64; k++) {
            s.bits[k] = x.bits[k] == y.bits[k] ? x.bits[k] : -1;
        }
        s.low = x.low.min(y.low);
        s.high = x.high.max(y.high);
        s.least = x.least.min(y.least);
        s.greatest = x.greatest.max(y.greatest);
        return s;
    }

    private static Slow widened(Slow x, Slow y) {
        Slow s = hull(x, y);
        s.low = y.low.compareTo(x.low) < 0 ? ZERO : x.low;
        s.high = y.high.compareTo(x.high) > 0 ? TOP : x.high;
        s.least = y.least.compareTo(x.least) < 0 ? LEAST : x.least;
        s.greatest = y.greatest.compareTo(x.greatest) > 0 ? GREATEST : x.greatest;
        return s;
    }

    private static void joins(Random r) {
        Slow x = value(r), y = value(r);
        ProgramBox.Value v = new ProgramBox.Value();
        v.join(fast(x), fast(y));
        due("join " + x + " and " + y, v, tight(hull(x, y)));
        v.widen(fast(x), fast(y));
        due("widen " + x + " by " + y, v, tight(widened(x, y)));
    }

    private static Slow cut(Slow x, int n) {
        if (n == 64) {
            return x;
        }
        Slow s = new Slow();
        for (int k = 0; k < 64; k++) {
            s.bits[k] = k < n ? x.bits[k] : 0;
        }
        if (x.low.shiftRight(n).equals(x.high.shiftRight(n))) {
            s.low = x.low.mod(ONE.shiftLeft(n));
            s.high = x.high.mod(ONE.shiftLeft(n));
        }
        return tight(s);
    }

    private static Slow extended(Slow x, int n) {
        Slow c = cut(x, n);
        Slow s = new Slow();
        for (int k = 0; k < 64; k++) {
            s.bits[k] = c.bits[Math.min(k, n - 1)];
        }
        BigInteger half = ONE.shiftLeft(n - 1), all = ONE.shiftLeft(n);
        if (c.high.compareTo(half) < 0) {
            s.least = c.low;
            s.greatest = c.high;
        } else if (c.low.compareTo(half) >= 0) {
            s.least = c.low.subtract(all);
            s.greatest = c.high.subtract(all);
        } else {
            s.least = half.negate();
            s.greatest = half.subtract(ONE);
        }
        return tight(s);
    }

    private static Slow swapped(Slow x, int n) {
        Slow c = cut(x, n);
        Slow s = new Slow();
        for (int k = 0; k < 64; k++) {
            s.bits[k] = k >= n ? 0 : c.bits[8 * (n / 8 - 1 - k / 8) + k % 8];
        }
        return tight(s);
    }

    private static void cuts(Random r) {
        Slow x = value(r);
        int[] lengths = {8, 16, 32, 64};
        int n = lengths[r.nextInt(4)];
        ProgramBox.Value v = new ProgramBox.Value();
        v.cut(fast(x), n);
        due("cut to " + n + " " + x, v, cut(x, n));
        v.swap(fast(x), n);
        due("swap " + n + " " + x, v, swapped(x, n));
        if (n < 64) {
            v.extend(fast(x), n);
            due("extend from " + n + " " + x, v, extended(x, n));
        }
    }

    /** Sums bit by bit: which bits of the sum, and of the carry, there may be. */
    private static int[] sumBits(int[] x, int[] y, int carryIn) {
        int[] sum = new int[64];
        boolean[] carry = {carryIn == 0, carryIn == 1};
        for (int k = 0; k < 64; k++) {
            boolean[] may = new boolean[2], then = new boolean[2];
            for (int a = 0; a < 8; a++) {
                int p = a & 1, q = a >> 1 & 1, c = a >> 2;
                if (x[k] >= 0 && x[k] != p || y[k] >= 0 && y[k] != q || !carry[c]) {
                    continue;
                }
                may[p + q + c & 1] = true;
                then[p + q + c >> 1] = true;
            }
            sum[k] = may[0] && may[1] ? -1 : may[1] ? 1 : 0;
            carry = then;
        }
        return sum;
    }

    private static int[] turnedBits(int[] x) {
        int[] y = new int[64];
        for (int k = 0; k < 64; k++) {
            y[k] = x[k] < 0 ? -1 : 1 - x[k];
        }
        return y;
    }

    private static boolean isLong(BigInteger n) {
        return n.compareTo(LEAST) >= 0 && n.compareTo(GREATEST) <= 0;
    }

    /** The operation, by the document's own number of it, of 64 bits (top 63) or inside of one of 32 (top 31). */
    private static Slow operated(int n, Slow x, Slow y, int top) {
        Slow s = new Slow();
        int by = y.low.intValue() & top;
        boolean far = y.high.compareTo(BigInteger.valueOf(top)) > 0;
        int t = far ? 0 : y.low.intValue(), u = far ? top : y.high.intValue();
        switch (n) {
            case 0: case 1: addOrSubtract(n, x, y, s); break;
            case 2: multiply(x, y, s); break;
            case 3:
                s.low = y.low.signum() == 0 ? ZERO : x.low.divide(y.high);
                s.high = y.low.signum() == 0 ? x.high : x.high.divide(y.low);
                break;
            case 4:
                if (x.high.compareTo(y.low) < 0) {
                    s = x.copy();
                } else {
                    s.high = y.low.signum() == 0 ? x.high : x.high.min(y.high.subtract(ONE));
                }
                break;
            case 5: case 6: case 7:
                for (int k = 0; k < 64; k++) {
                    int a = x.bits[k], b = y.bits[k];
                    s.bits[k] = n == 5 ? (a == 0 || b == 0 ? 0 : a == 1 && b == 1 ? 1 : -1)
                            : n == 6 ? (a == 1 || b == 1 ? 1 : a == 0 && b == 0 ? 0 : -1) : a < 0 || b < 0 ? -1 : a ^ b;
                }
                s.high = n == 5 ? x.high.min(y.high) : TOP;
                s.low = n == 6 ? x.low.max(y.low) : ZERO;
                break;
            case 8: left(x, y, s, by, t); break;
            case 9:
                for (int k = 0; k < 64 && y.single(); k++) {
                    s.bits[k] = k + by < 64 ? x.bits[k + by] : 0;
                }
                s.low = x.low.shiftRight(y.single() ? by : u);
                s.high = x.high.shiftRight(y.single() ? by : t);
                break;
            case 10:
                for (int k = 0; k < 64 && y.single(); k++) {
                    s.bits[k] = x.bits[Math.min(63, k + by)];
                }
                s.least = y.single() ? x.least.shiftRight(by) : x.least.shiftRight(t).min(x.least.shiftRight(u));
                s.greatest = y.single() ? x.greatest.shiftRight(by) : x.greatest.shiftRight(t).max(x.greatest.shiftRight(u));
                break;
            default: s = y.copy(); break;
        }
        return tight(s);
    }

    private static void addOrSubtract(int n, Slow x, Slow y, Slow s) {
        s.bits = n == 0 ? sumBits(x.bits, y.bits, 0) : sumBits(x.bits, turnedBits(y.bits), 1);
        BigInteger l = n == 0 ? x.low.add(y.low) : x.low.subtract(y.high);
        BigInteger h = n == 0 ? x.high.add(y.high) : x.high.subtract(y.low);
        if (unsigned(l).equals(l) == unsigned(h).equals(h)) {
            s.low = unsigned(l);
            s.high = unsigned(h);
        }
        l = n == 0 ? x.least.add(y.least) : x.least.subtract(y.greatest);
        h = n == 0 ? x.greatest.add(y.greatest) : x.greatest.subtract(y.least);
        if (isLong(l) && isLong(h)) {
            s.least = l;
            s.greatest = h;
        }
    }

    private static void multiply(Slow x, Slow y, Slow s) {
        int p = 0, r = 0, q = 0, z = 0;
        BigInteger a = ZERO, b = ZERO;
        while (p < 64 && x.bits[p] >= 0) {
            p++;
        }
        while (r < 64 && x.bits[r] == 0) {
            r++;
        }
        while (q < 64 && y.bits[q] >= 0) {
            q++;
        }
        while (z < 64 && y.bits[z] == 0) {
            z++;
        }
        for (int k = 0; k < 64; k++) {
            a = x.bits[k] == 1 ? a.setBit(k) : a;
            b = y.bits[k] == 1 ? b.setBit(k) : b;
        }
        for (int k = 0; k < 64 && k < Math.min(p + z, q + r); k++) {
            s.bits[k] = a.multiply(b).testBit(k) ? 1 : 0;
        }
        if (x.high.multiply(y.high).compareTo(TOP) <= 0) {
            s.low = x.low.multiply(y.low);
            s.high = x.high.multiply(y.high);
        }
        BigInteger[] products = {x.least.multiply(y.least), x.least.multiply(y.greatest),
            x.greatest.multiply(y.least), x.greatest.multiply(y.greatest)};
        BigInteger l = products[0], h = products[0];
        boolean longs = true;
        for (BigInteger product : products) {
            l = l.min(product);
            h = h.max(product);
            longs &= isLong(product);
        }
        if (longs) {
            s.least = l;
            s.greatest = h;
        }
    }

    private static void left(Slow x, Slow y, Slow s, int by, int t) {
        if (!y.single()) {
            int r = 0;
            while (r < 64 && x.bits[r] == 0) {
                r++;
            }
            for (int k = 0; k < Math.min(64, r + t); k++) {
                s.bits[k] = 0;
            }
            return;
        }
        for (int k = 0; k < 64; k++) {
            s.bits[k] = k < by ? 0 : x.bits[k - by];
        }
        if (x.high.compareTo(ONE.shiftLeft(64 - by)) < 0) {
            s.low = x.low.shiftLeft(by);
            s.high = x.high.shiftLeft(by);
        }
        if (isLong(x.least.shiftLeft(by)) && isLong(x.greatest.shiftLeft(by))) {
            s.least = x.least.shiftLeft(by);
            s.greatest = x.greatest.shiftLeft(by);
        }
    }

    /** By the document's number of an operation: that of an instruction. */
    private static final int[] CODE = {0, 1, 2, 3, 9, 5, 4, 10, 6, 7, 12, 11};

    private static void operates(Random r) {
        int n = r.nextInt(12);
        Slow x = value(r), y = n >= 8 && r.nextInt(3) > 0 ? cut(value(r), 8) : value(r);
        int top = r.nextBoolean() ? 63 : 31;
        Slow a = x, b = y;
        if (top == 31) {
            a = n == 10 ? extended(x, 32) : cut(x, 32);
            b = cut(y, 32);
        }
        ProgramBox.Value v = new ProgramBox.Value();
        v.operate(CODE[n], fast(a), fast(b), top);
        due("operation " + n + " " + top + " of " + a + " and " + b, v, operated(n, a, b, top));
    }

    private static Slow[] refined(int c, Slow x, Slow y) {
        Slow p = x.copy(), q = y.copy();
        switch (c) {
            case 0:
                for (int k = 0; k < 64; k++) {
                    if (x.bits[k] >= 0 && y.bits[k] >= 0 && x.bits[k] != y.bits[k]) {
                        return null;
                    }
                    p.bits[k] = Math.max(x.bits[k], y.bits[k]);
                }
                p.low = x.low.max(y.low);
                p.high = x.high.min(y.high);
                p.least = x.least.max(y.least);
                p.greatest = x.greatest.min(y.greatest);
                q = p.copy();
                break;
            case 1:
                if (!without(p, x, y) || !without(q, y, x)) {
                    return null;
                }
                break;
            case 2:
                if (y.high.signum() == 0 || x.low.equals(TOP)) {
                    return null;
                }
                p.high = x.high.min(y.high.subtract(ONE));
                q.low = y.low.max(x.low.add(ONE));
                break;
            case 3:
                p.high = x.high.min(y.high);
                q.low = y.low.max(x.low);
                break;
            case 6:
                if (y.greatest.equals(LEAST) || x.least.equals(GREATEST)) {
                    return null;
                }
                p.greatest = x.greatest.min(y.greatest.subtract(ONE));
                q.least = y.least.max(x.least.add(ONE));
                break;
            case 7:
                p.greatest = x.greatest.min(y.greatest);
                q.least = y.least.max(x.least);
                break;
            case 4: case 5: case 8: case 9: {
                Slow[] turned = refined(c == 4 ? 2 : c == 5 ? 3 : c == 8 ? 6 : 7, y, x);
                return turned == null ? null : new Slow[] {turned[1], turned[0]};
            }
            default:
                if (!byBits(c, x, y, p, q)) {
                    return null;
                }
                break;
        }
        Slow s = tight(p), t = tight(q);
        return s == null || t == null ? null : new Slow[] {s, t};
    }

    private static boolean without(Slow p, Slow x, Slow y) {
        if (!y.single()) {
            return true;
        }
        if (x.single() && x.low.equals(y.low)) {
            return false;
        }
        p.low = x.low.equals(y.low) ? x.low.add(ONE) : x.low;
        p.high = x.high.equals(y.low) ? x.high.subtract(ONE) : x.high;
        p.least = x.least.equals(y.least) ? x.least.add(ONE) : x.least;
        p.greatest = x.greatest.equals(y.least) ? x.greatest.subtract(ONE) : x.greatest;
        return true;
    }

    private static boolean byBits(int c, Slow x, Slow y, Slow p, Slow q) {
        boolean shared = false, both = false;
        for (int k = 0; k < 64; k++) {
            shared |= x.bits[k] != 0 && y.bits[k] != 0;
            both |= x.bits[k] == 1 && y.bits[k] == 1;
        }
        if (c == 10 ? !shared : both) {
            return false;
        }
        for (int k = 0; k < 64; k++) {
            if (y.single() && y.low.testBit(k) && (c == 11 || y.low.bitCount() == 1)) {
                p.bits[k] = c == 10 ? 1 : 0;
            }
            if (x.single() && x.low.testBit(k) && (c == 11 || x.low.bitCount() == 1)) {
                q.bits[k] = c == 10 ? 1 : 0;
            }
        }
        return true;
    }

    private static void refines(Random r) {
        int c = r.nextInt(12);
        Slow x = value(r), y = r.nextInt(3) == 0 ? just(BigInteger.valueOf(number(r))) : value(r);
        if (r.nextInt(8) == 0) {
            y = just(r.nextBoolean() ? x.low : x.greatest);
        }
        if (r.nextInt(8) == 0) {
            y = just(ONE.shiftLeft(r.nextInt(64)));
        }
        if (r.nextInt(8) == 0) {
            Slow z = x;
            x = y;
            y = z;
        }
        ProgramBox.Value v = fast(x), w = fast(y);
        Slow[] want = refined(c, x, y);
        boolean can = ProgramBox.Value.refine(c, v, w);
        due("refine by " + c + " " + x + " and " + y, can, want != null);
        if (can && want != null) {
            due("refine X by " + c + " " + x + " and " + y, v, want[0]);
            due("refine Y by " + c + " " + x + " and " + y, w, want[1]);
        }
    }

    /** The two examples that the document works out. */
    private static void worked() {
        Slow s = just(ZERO);
        s.bits[0] = 1;
        s.bits[1] = -1;
        s.bits[2] = -1;
        s.low = BigInteger.TWO;
        s.high = BigInteger.valueOf(6);
        s.greatest = GREATEST;
        s.least = LEAST;
        ProgramBox.Value v = fast(s);
        due("first example", v.tighten() && v.low == 3 && v.high == 5 && v.least == 3 && v.greatest == 5
                && v.mask == ~6L && v.ones == 1, true);
        s = new Slow();
        s.low = BigInteger.valueOf(5);
        s.high = ONE.shiftLeft(63).add(ONE);
        s.least = BigInteger.valueOf(-3);
        s.greatest = BigInteger.valueOf(7);
        v = fast(s);
        due("second example", v.tighten() && v.low == 5 && v.high == 7 && v.least == 5 && v.greatest == 7
                && v.mask == ~3L && v.ones == 4, true);
    }

    public static void main(String[] args) {
        int rounds = args.length > 0 ? Integer.parseInt(args[0]) : 15000;
        Random r = new Random(args.length > 1 ? Long.parseLong(args[1]) : 5);
        worked();
        for (int k = 0; k < rounds; k++) {
            tightens(r);
            tightensByTrying(r);
            joins(r);
            cuts(r);
            operates(r);
            refines(r);
        }
        System.out.println(wrong == 0 ? "values are as due" : wrong + " values are not as due");
        if (wrong != 0) {
            System.exit(1);
        }
    }
}
