/** A box for small programs: they are checked, let in, and run on packets, with maps that keep their data. */
public final class ProgramBox {

    public static final int NONE = -1;
    public static final int EXIT = 0, FUEL = 1;

    private static final int MOST_PROGRAMS = 8, MOST_MAPS = 8, MOST_FUEL = 100000;
    private static final int TAPE_BYTES = 8192, PLACES = 1024, TYPED = 20;
    private static final int PACKET_BYTES = 2048, CONTEXT_BYTES = 64, STACK_BYTES = 512;
    private static final int DESK_BYTES = 512, AREA_BYTES = 65536;
    private static final int REGISTERS = 11, SLOTS = 64;

    /** Kinds of maps. */
    private static final int ARRAY = 0, TABLE = 1, RING = 2;
    /** Flags of an update. */
    private static final int NEW = 1, THERE = 2;
    /** Answers. */
    private static final int NO_KEY = -2, TOO_MUCH = -7, NO_ROOM = -11, KEY_THERE = -17, UNFIT = -22;
    /** Sorts of things. */
    private static final int NOTHING = 0, NUMBER = 1, CONTEXT = 2, STACK = 3, PACKET = 4, END = 5, MAP = 6, ITEM = 7, MAYBE = 8;
    /** Operations, as the highest four bits of a code tell them. */
    private static final int ADD = 0, SUBTRACT = 1, MULTIPLY = 2, DIVIDE = 3, OR = 4, AND = 5, LEFT = 6, RIGHT = 7,
            NEGATE = 8, REST = 9, XOR = 10, MOVE = 11, SIGNED_RIGHT = 12, TURN = 13;
    /** What calls of programs are. */
    private static final int SEEK = 1, PUT = 2, DROP = 3, SEND = 4, CLOCK = 5, TRIM = 6;
    /** Codes that stand alone. */
    private static final int WIDE_CODE = 24, GO_CODE = 5, GO_FAR_CODE = 6, CALL_CODE = 133, EXIT_CODE = 149;
    /** Reasons that are not a refusal of the instruction itself. */
    private static final int WRONG = 9, TOO_LONG = 10;

    private final byte[] tape = new byte[TAPE_BYTES];
    private int tapeLength;
    private final Store store = new Store();
    private final Checker checker = new Checker(store);
    private final Machine machine = new Machine(store);
    private final Program[] letIn = new Program[MOST_PROGRAMS];
    private int letInCount;
    private int refusedAt = NONE, refusedFor;

    public ProgramBox() {
    }

    public int feed(int a, int b, int c, int d, int e) throws IllegalStateException {
        if (tapeLength > TAPE_BYTES - TYPED) {
            throw new IllegalStateException("the tape is full");
        }
        type(a);
        type(b);
        type(c);
        type(d);
        type(e);
        return tapeLength;
    }

    private void type(int word) {
        for (int shift = 24; shift >= 0; shift -= 8) {
            tape[tapeLength] = (byte) (word >> shift);
            tapeLength++;
        }
    }

    public void end(int n) throws IllegalArgumentException {
        if (n < 0 || n > tapeLength) {
            throw new IllegalArgumentException("the tape has not so many bytes");
        }
        tapeLength = n;
    }

    public int make(int kind, int key, int value, int entries) throws IllegalArgumentException, IllegalStateException {
        if (!Store.isShape(kind, key, value, entries)) {
            throw new IllegalArgumentException("no map is like this");
        }
        if (store.mapCount >= MOST_MAPS || Store.bytesOf(value, entries) > AREA_BYTES - store.given) {
            throw new IllegalStateException("too many maps, or too little area");
        }
        return store.addMap(kind, key, value, entries);
    }

    public int load() throws IllegalStateException {
        if (letInCount >= MOST_PROGRAMS) {
            throw new IllegalStateException("too many programs");
        }
        Program program = new Program(tape, tapeLength);
        boolean rest = tapeLength % 8 != 0;
        tapeLength = 0;
        refusedAt = program.firstWrong(rest);
        refusedFor = WRONG;
        if (refusedAt == NONE) {
            refusedFor = checker.look(program);
            refusedAt = refusedFor == 0 ? NONE : checker.at;
        }
        if (refusedAt != NONE) {
            return NONE;
        }
        letIn[letInCount] = program;
        letInCount++;
        return letInCount - 1;
    }

    public int refused() {
        return refusedAt;
    }

    public int reason() {
        return refusedFor;
    }

    public int programs() {
        return letInCount;
    }

    public int packet() throws IllegalStateException {
        if (tapeLength > PACKET_BYTES) {
            throw new IllegalStateException("too long for a packet");
        }
        System.arraycopy(tape, 0, store.packetBytes, 0, tapeLength);
        store.packetSize = tapeLength;
        tapeLength = 0;
        return store.packetSize;
    }

    public int size() {
        return store.packetSize;
    }

    public int at(int i) throws IndexOutOfBoundsException {
        if (i < 0 || i >= store.packetSize) {
            throw new IndexOutOfBoundsException("the packet has no such byte");
        }
        return store.packetBytes[i] & 255;
    }

    public void context(int from, long v) throws IndexOutOfBoundsException, IllegalArgumentException {
        testContext(from);
        Store.write(store.contextBytes, from, 8, v);
    }

    public long field(int from) throws IndexOutOfBoundsException, IllegalArgumentException {
        testContext(from);
        return Store.read(store.contextBytes, from, 8);
    }

    private static void testContext(int from) {
        if (from % 8 != 0) {
            throw new IllegalArgumentException("eight does not divide it");
        }
        if (from < 16 || from > CONTEXT_BYTES - 8) {
            throw new IndexOutOfBoundsException("the context has no such number");
        }
    }

    public void clock(long v) {
        store.time = v;
    }

    public int run(int program, int fuel) throws IndexOutOfBoundsException, IllegalArgumentException {
        if (fuel < 0 || fuel > MOST_FUEL) {
            throw new IllegalArgumentException("no run has this fuel");
        }
        if (program < 0 || program >= letInCount) {
            throw new IndexOutOfBoundsException("there is no such program");
        }
        return machine.go(letIn[program], fuel);
    }

    public long result() {
        return machine.lastResult;
    }

    public int place() {
        return machine.lastPlace;
    }

    public int steps() {
        return machine.stepCount;
    }

    public int used(int map) throws IndexOutOfBoundsException {
        return mapOf(map).held();
    }

    private BoxMap mapOf(int map) {
        BoxMap found = store.map(map);
        if (found == null) {
            throw new IndexOutOfBoundsException("there is no such map");
        }
        return found;
    }

    private static void testPart(int at, int bytes, int all) {
        if (at < 0 || at > all - bytes) {
            throw new IndexOutOfBoundsException("there is no such byte");
        }
    }

    public void lay(int at, long v) throws IndexOutOfBoundsException {
        testPart(at, 8, DESK_BYTES);
        Store.write(store.deskBytes, at, 8, v);
    }

    public long desk(int at) throws IndexOutOfBoundsException {
        testPart(at, 8, DESK_BYTES);
        return Store.read(store.deskBytes, at, 8);
    }

    public long area(int at) throws IndexOutOfBoundsException {
        testPart(at, 8, AREA_BYTES);
        return Store.read(store.areaBytes, at, 8);
    }

    public int find(int map, int keyAt) throws IndexOutOfBoundsException {
        BoxMap in = mapOf(map);
        if (in.kind == RING) {
            return UNFIT;
        }
        testPart(keyAt, in.keySize, DESK_BYTES);
        int entry = in.entryOf(store.deskBytes, keyAt);
        return entry == NONE ? NONE : in.whereIs(entry);
    }

    public int update(int map, int keyAt, int valueAt, int flags) throws IndexOutOfBoundsException {
        BoxMap in = mapOf(map);
        if (in.kind == RING) {
            return UNFIT;
        }
        testPart(keyAt, in.keySize, DESK_BYTES);
        testPart(valueAt, in.valueSize, DESK_BYTES);
        return in.put(store.deskBytes, keyAt, store.deskBytes, valueAt, flags);
    }

    public int remove(int map, int keyAt) throws IndexOutOfBoundsException {
        BoxMap in = mapOf(map);
        if (in.kind != TABLE) {
            return UNFIT;
        }
        testPart(keyAt, in.keySize, DESK_BYTES);
        return in.drop(store.deskBytes, keyAt);
    }

    public int take(int map, int at) throws IndexOutOfBoundsException {
        BoxMap in = mapOf(map);
        int bytes = in.due();
        if (bytes < 0) {
            return bytes;
        }
        testPart(at, bytes, DESK_BYTES);
        in.draw(store.deskBytes, at, bytes);
        return bytes;
    }

    public int next(int map, int keyAt, int to) throws IndexOutOfBoundsException {
        BoxMap in = mapOf(map);
        if (in.kind != TABLE) {
            return UNFIT;
        }
        if (keyAt != NONE) {
            testPart(keyAt, in.keySize, DESK_BYTES);
        }
        testPart(to, in.keySize, DESK_BYTES);
        int before = keyAt == NONE ? NONE : in.entryOf(store.deskBytes, keyAt);
        return in.follow(before, store.deskBytes, to);
    }

    public int breaches() {
        return machine.breachCount;
    }

    /** Reckoning with longs as rows of bits and as unsigned numbers. */
    static final class Bits {
        private Bits() {
        }

        static boolean below(long a, long b) {
            return a + Long.MIN_VALUE < b + Long.MIN_VALUE;
        }

        static long lesser(long a, long b) {
            return a + Long.MIN_VALUE < b + Long.MIN_VALUE ? a : b;
        }

        static long larger(long a, long b) {
            return a + Long.MIN_VALUE < b + Long.MIN_VALUE ? b : a;
        }

        /** A long whose lowest n bits are 1, n from 0 to 64. */
        static long lowest(int n) {
            return n >= 64 ? -1L : (1L << n) - 1;
        }

        /** x / y, unsigned; 0 for y 0. */
        static long quotient(long x, long y) {
            if (y == 0) {
                return 0;
            }
            if (y < 0) {
                return x + Long.MIN_VALUE < y + Long.MIN_VALUE ? 0 : 1;
            }
            if (x >= 0) {
                return x / y;
            }
            // half of x is a long without sign; what is lost by halving makes at most one more
            long half = ((x >>> 1) / y) << 1;
            return x - half * y + Long.MIN_VALUE < y + Long.MIN_VALUE ? half : half + 1;
        }

        /** The rest of x by y, unsigned; x for y 0. */
        static long rest(long x, long y) {
            return y == 0 ? x : x - quotient(x, y) * y;
        }

        /** Whether a * b is a long. */
        static boolean fits(long a, long b) {
            if (a == 0 || b == 0) {
                return true;
            }
            if (a == -1) {
                return b != Long.MIN_VALUE;
            }
            return b == -1 ? a != Long.MIN_VALUE : a * b / b == a;
        }

        /** The lowest n bits of x, their bytes turned round. */
        static long turned(long x, int n) {
            long y = 0;
            for (int bit = 0; bit < n && bit < 64; bit += 8) {
                y = y << 8 | x >>> bit & 255;
            }
            return y;
        }
    }

    /** Sayings of numbers; tight wherever it is read by others. What sets one from others is never one of them. */
    static class Value {
        private static final int[] OPPOSITE = {1, 0, 5, 4, 3, 2, 9, 8, 7, 6, 11, 10};

        long mask;
        long ones;
        long low;
        long high;
        long least;
        long greatest;

        final void any() {
            mask = 0;
            ones = 0;
            low = 0;
            high = -1;
            least = Long.MIN_VALUE;
            greatest = Long.MAX_VALUE;
        }

        final void just(long n) {
            mask = -1;
            ones = n;
            low = n;
            high = n;
            least = n;
            greatest = n;
        }

        final void sayings(Value v) {
            mask = v.mask;
            ones = v.ones;
            low = v.low;
            high = v.high;
            least = v.least;
            greatest = v.greatest;
        }

        final boolean sameSayings(Value v) {
            return mask == v.mask && ones == v.ones && low == v.low && high == v.high
                    && least == v.least && greatest == v.greatest;
        }

        final boolean single() {
            return low == high;
        }

        final boolean isJust(long n) {
            return low == n && high == n;
        }

        /** Makes the sayings tight; false, and left as they were, when they have no numbers. */
        final boolean tighten() {
            // numbers from 0 on and those below are looked at apart: in each part both orders are the same
            long sign = Long.MIN_VALUE;
            long from = Math.max(Math.max(low, least), 0);
            long to = Math.min(high < 0 ? Long.MAX_VALUE : high, greatest);
            boolean plus = low >= 0 && ones >= 0 && from <= to;
            long plusFirst = plus ? firstFrom(mask | sign, ones, from) : 0;
            long plusLast = plus ? ~firstFrom(mask | sign, ~ones & (mask | sign), ~to) : 0;
            plus = plus && plusFirst >= from && plusLast <= to && plusFirst <= plusLast;

            from = Math.max(low < 0 ? low : Long.MIN_VALUE, least);
            to = Math.min(Math.min(high, greatest), -1);
            boolean minus = high < 0 && (mask >= 0 || ones < 0) && from <= to;
            long minusFirst = minus ? firstFrom(mask | sign, ones | sign, from) : 0;
            long minusLast = minus ? ~firstFrom(mask | sign, ~ones & mask & ~sign, ~to) : 0;
            minus = minus && minusFirst >= from && minusLast <= to && minusFirst <= minusLast;
            if (!plus && !minus) {
                return false;
            }
            low = plus ? plusFirst : minusFirst;
            high = minus ? minusLast : plusLast;
            least = minus ? minusFirst : plusFirst;
            greatest = plus ? plusLast : minusLast;
            long plusMask = mask | sameAbove(plusFirst, plusLast);
            long minusMask = mask | sameAbove(minusFirst, minusLast);
            if (plus && minus) {
                mask = plusMask & minusMask & ~(plusFirst ^ minusFirst);
            } else {
                mask = plus ? plusMask : minusMask;
            }
            ones = (plus ? plusFirst : minusFirst) & mask;
            return true;
        }

        /** The first number from a on, in the half of a, with these bits; one below a if there is none. */
        private static long firstFrom(long mask, long ones, long a) {
            long wrong = (a ^ ones) & mask;
            if (wrong == 0) {
                return a;
            }
            // the highest wrong bit and all below it
            long under = wrong;
            for (int shift = 1; shift < 64; shift *= 2) {
                under |= under >>> shift;
            }
            if ((a & under & ~(under >>> 1)) == 0) {
                return a & ~under | ones & under;
            }
            long free = ~mask & ~a & ~under;
            long up = free & -free;
            return up == 0 ? ones : a & ~(up | up - 1) | up | ones & up - 1;
        }

        /** The bits above the highest one in which a and b differ. */
        private static long sameAbove(long a, long b) {
            long under = a ^ b;
            for (int shift = 1; shift < 64; shift *= 2) {
                under |= under >>> shift;
            }
            return ~under;
        }

        /** Becomes what operation n makes of x and y; top is 63, or 31 for shifts by five bits. */
        final void operate(int n, Value x, Value y, int top) {
            any();
            switch (n) {
                case ADD: sayAdd(x, y); break;
                case SUBTRACT: saySubtract(x, y); break;
                case MULTIPLY: sayMultiply(x, y); break;
                case DIVIDE: sayDivide(x, y); break;
                case REST: sayRest(x, y); break;
                case AND: case OR: case XOR: sayBits(n, x, y); break;
                case LEFT: sayLeft(x, y, top); break;
                case RIGHT: sayRight(x, y, top); break;
                case SIGNED_RIGHT: saySignedRight(x, y, top); break;
                case MOVE: sayings(y); break;
                default: break;
            }
            tighten();
        }

        private void sayAdd(Value x, Value y) {
            long sum = x.ones + y.ones;
            long open = ~x.mask | ~y.mask | (sum + ~x.mask + ~y.mask) ^ sum;
            mask = ~open;
            ones = sum & mask;
            long l = x.low + y.low;
            long h = x.high + y.high;
            if (Bits.below(l, x.low) == Bits.below(h, x.high)) {
                low = l;
                high = h;
            }
            l = x.least + y.least;
            h = x.greatest + y.greatest;
            if (((x.least ^ l) & (y.least ^ l)) >= 0 && ((x.greatest ^ h) & (y.greatest ^ h)) >= 0) {
                least = l;
                greatest = h;
            }
        }

        private void saySubtract(Value x, Value y) {
            long difference = x.ones - y.ones;
            long open = ~x.mask | ~y.mask | (difference + ~x.mask) ^ (difference - ~y.mask);
            mask = ~open;
            ones = difference & mask;
            if (Bits.below(x.low, y.high) == Bits.below(x.high, y.low)) {
                low = x.low - y.high;
                high = x.high - y.low;
            }
            long l = x.least - y.greatest;
            long h = x.greatest - y.least;
            if (((x.least ^ y.greatest) & (x.least ^ l)) >= 0 && ((x.greatest ^ y.least) & (x.greatest ^ h)) >= 0) {
                least = l;
                greatest = h;
            }
        }

        private void sayMultiply(Value x, Value y) {
            int byX = x.lowestKnown() + y.lowestZeros();
            int byY = y.lowestKnown() + x.lowestZeros();
            mask = Bits.lowest(Math.min(byX, byY));
            ones = x.ones * y.ones & mask;
            if (x.high == 0 || !Bits.below(Bits.quotient(-1L, x.high), y.high)) {
                low = x.low * y.low;
                high = x.high * y.high;
            }
            if (Bits.fits(x.least, y.least) && Bits.fits(x.least, y.greatest)
                    && Bits.fits(x.greatest, y.least) && Bits.fits(x.greatest, y.greatest)) {
                long a = x.least * y.least;
                long b = x.least * y.greatest;
                long c = x.greatest * y.least;
                long d = x.greatest * y.greatest;
                least = Math.min(Math.min(a, b), Math.min(c, d));
                greatest = Math.max(Math.max(a, b), Math.max(c, d));
            }
        }

        /** How many bits are known, one behind the other from bit 0 on. */
        private int lowestKnown() {
            return Long.bitCount(mask & ~mask - 1);
        }

        /** How many of the lowest bits are known to be 0. */
        private int lowestZeros() {
            return Long.bitCount(mask & ~ones & (~mask | ones) - 1);
        }

        private void sayDivide(Value x, Value y) {
            low = y.low == 0 ? 0 : Bits.quotient(x.low, y.high);
            high = y.low == 0 ? x.high : Bits.quotient(x.high, y.low);
        }

        private void sayRest(Value x, Value y) {
            if (Bits.below(x.high, y.low)) {
                sayings(x);
            } else {
                high = y.low == 0 ? x.high : Bits.lesser(x.high, y.high - 1);
            }
        }

        private void sayBits(int n, Value x, Value y) {
            long zeros = x.mask & ~x.ones;
            long zerosToo = y.mask & ~y.ones;
            if (n == AND) {
                ones = x.ones & y.ones;
                mask = ones | zeros | zerosToo;
                high = Bits.lesser(x.high, y.high);
            } else if (n == OR) {
                ones = x.ones | y.ones;
                mask = ones | zeros & zerosToo;
                low = Bits.larger(x.low, y.low);
            } else {
                mask = x.mask & y.mask;
                ones = (x.ones ^ y.ones) & mask;
            }
        }

        private void sayLeft(Value x, Value y, int top) {
            if (!y.single()) {
                int t = Bits.below(top, y.high) ? 0 : (int) y.low;
                mask = Bits.lowest(Math.min(64, x.lowestZeros() + t));
                return;
            }
            int s = (int) y.low & top;
            mask = x.mask << s | Bits.lowest(s);
            ones = x.ones << s;
            if (x.high << s >>> s == x.high) {
                low = x.low << s;
                high = x.high << s;
            }
            if (x.least << s >> s == x.least && x.greatest << s >> s == x.greatest) {
                least = x.least << s;
                greatest = x.greatest << s;
            }
        }

        private void sayRight(Value x, Value y, int top) {
            if (y.single()) {
                int s = (int) y.low & top;
                mask = ~(~x.mask >>> s);
                ones = x.ones >>> s;
                low = x.low >>> s;
                high = x.high >>> s;
                return;
            }
            boolean far = Bits.below(top, y.high);
            low = x.low >>> (far ? top : (int) y.high);
            high = x.high >>> (far ? 0 : (int) y.low);
        }

        private void saySignedRight(Value x, Value y, int top) {
            if (y.single()) {
                int s = (int) y.low & top;
                mask = x.mask >> s;
                ones = x.ones >> s;
                least = x.least >> s;
                greatest = x.greatest >> s;
                return;
            }
            boolean far = Bits.below(top, y.high);
            int t = far ? 0 : (int) y.low;
            int u = far ? top : (int) y.high;
            least = Math.min(x.least >> t, x.least >> u);
            greatest = Math.max(x.greatest >> t, x.greatest >> u);
        }

        final void cut(Value x, int n) {
            sayCut(x, n);
            tighten();
        }

        private void sayCut(Value x, int n) {
            if (n >= 64) {
                sayings(x);
                return;
            }
            any();
            long keep = Bits.lowest(n);
            mask = x.mask | ~keep;
            ones = x.ones & keep;
            if ((x.low & ~keep) == (x.high & ~keep)) {
                low = x.low & keep;
                high = x.high & keep;
            }
        }

        /** From n bits, 8, 16 or 32. */
        final void extend(Value x, int n) {
            sayCut(x, n);
            tighten();
            long half = 1L << (n - 1);
            long above = ~Bits.lowest(n);
            long cutLow = low;
            long cutHigh = high;
            long cutMask = mask;
            long cutOnes = ones;
            any();
            mask = (cutMask & half) != 0 ? cutMask | above : cutMask & ~above;
            ones = (cutOnes & half) != 0 ? cutOnes | above : cutOnes;
            least = cutHigh < half ? cutLow : cutLow >= half ? cutLow - 2 * half : -half;
            greatest = cutHigh < half ? cutHigh : cutLow >= half ? cutHigh - 2 * half : half - 1;
            tighten();
        }

        final void swap(Value x, int n) {
            sayCut(x, n);
            tighten();
            long cutMask = mask;
            long cutOnes = ones;
            any();
            mask = Bits.turned(cutMask, n) | ~Bits.lowest(n);
            ones = Bits.turned(cutOnes, n);
            tighten();
        }

        final void join(Value x, Value y) {
            mask = x.mask & y.mask & ~(x.ones ^ y.ones);
            ones = x.ones & mask;
            low = Bits.lesser(x.low, y.low);
            high = Bits.larger(x.high, y.high);
            least = Math.min(x.least, y.least);
            greatest = Math.max(x.greatest, y.greatest);
            tighten();
        }

        final void widen(Value x, Value y) {
            any();
            mask = x.mask & y.mask & ~(x.ones ^ y.ones);
            ones = x.ones & mask;
            if (!Bits.below(y.low, x.low)) {
                low = x.low;
            }
            if (!Bits.below(x.high, y.high)) {
                high = x.high;
            }
            if (y.least >= x.least) {
                least = x.least;
            }
            if (y.greatest <= x.greatest) {
                greatest = x.greatest;
            }
            tighten();
        }

        static int opposite(int c) {
            return c < 0 || c >= OPPOSITE.length ? 0 : OPPOSITE[c];
        }

        /** Refines x and y, two values, by comparison c; false when it can't be. */
        static boolean refine(int c, Value x, Value y) {
            boolean can;
            switch (c) {
                case 0: can = saySame(x, y); break;
                case 1: can = sayOther(x, y); break;
                case 2: can = sayBelow(x, y); break;
                case 3: can = sayNotAbove(x, y); break;
                case 4: can = sayBelow(y, x); break;
                case 5: can = sayNotAbove(y, x); break;
                case 6: can = sayLess(x, y); break;
                case 7: can = sayNotMore(x, y); break;
                case 8: can = sayLess(y, x); break;
                case 9: can = sayNotMore(y, x); break;
                case 10: can = sayShared(x, y); break;
                default: can = sayApart(x, y); break;
            }
            return can && x.tighten() && y.tighten();
        }

        private static boolean saySame(Value x, Value y) {
            if (((x.ones ^ y.ones) & x.mask & y.mask) != 0) {
                return false;
            }
            x.mask |= y.mask;
            x.ones |= y.ones;
            x.low = Bits.larger(x.low, y.low);
            x.high = Bits.lesser(x.high, y.high);
            x.least = Math.max(x.least, y.least);
            x.greatest = Math.min(x.greatest, y.greatest);
            y.sayings(x);
            return true;
        }

        private static boolean sayOther(Value x, Value y) {
            if (!x.single() && !y.single()) {
                return true;
            }
            if (x.single() && y.single()) {
                return x.low != y.low;
            }
            if (y.single()) {
                x.without(y.low);
            } else {
                y.without(x.low);
            }
            return true;
        }

        /** The bounds that are n go in by 1; there are other numbers than n. */
        private void without(long n) {
            low += low == n ? 1 : 0;
            high -= high == n ? 1 : 0;
            least += least == n ? 1 : 0;
            greatest -= greatest == n ? 1 : 0;
        }

        private static boolean sayBelow(Value x, Value y) {
            if (y.high == 0 || x.low == -1) {
                return false;
            }
            long from = x.low + 1;
            x.high = Bits.lesser(x.high, y.high - 1);
            y.low = Bits.larger(y.low, from);
            return true;
        }

        private static boolean sayNotAbove(Value x, Value y) {
            x.high = Bits.lesser(x.high, y.high);
            y.low = Bits.larger(y.low, x.low);
            return true;
        }

        private static boolean sayLess(Value x, Value y) {
            if (y.greatest == Long.MIN_VALUE || x.least == Long.MAX_VALUE) {
                return false;
            }
            long from = x.least + 1;
            x.greatest = Math.min(x.greatest, y.greatest - 1);
            y.least = Math.max(y.least, from);
            return true;
        }

        private static boolean sayNotMore(Value x, Value y) {
            x.greatest = Math.min(x.greatest, y.greatest);
            y.least = Math.max(y.least, x.least);
            return true;
        }

        private static boolean sayShared(Value x, Value y) {
            if (((~x.mask | x.ones) & (~y.mask | y.ones)) == 0) {
                return false;
            }
            long forX = y.single() && Long.bitCount(y.low) == 1 ? y.low : 0;
            long forY = x.single() && Long.bitCount(x.low) == 1 ? x.low : 0;
            x.mask |= forX;
            x.ones |= forX;
            y.mask |= forY;
            y.ones |= forY;
            return true;
        }

        private static boolean sayApart(Value x, Value y) {
            if ((x.ones & y.ones) != 0) {
                return false;
            }
            long forX = y.single() ? y.low : 0;
            long forY = x.single() ? x.low : 0;
            x.mask |= forX;
            y.mask |= forY;
            return true;
        }
    }

    /** What a register or a slot has: of a NUMBER, a PACKET and an ITEM the value counts. */
    static final class Thing extends Value {
        int sort;
        /** Of a MAP, an ITEM, a MAYBE; else 0. */
        int map;
        /** The constant of a CONTEXT or STACK, the place of a MAYBE; else 0. */
        long mark;
        /** Which bytes of a slot are WRITTEN, a bit for each, when it has no thing; else 0. */
        int written;

        void become(int newSort, int newMap, long newMark) {
            sort = newSort;
            map = newMap;
            mark = newMark;
            written = 0;
        }

        void becomeNothing() {
            become(NOTHING, 0, 0);
        }

        void becomeNumber(Value v) {
            become(NUMBER, 0, 0);
            sayings(v);
        }

        void becomeJust(long n) {
            become(NUMBER, 0, 0);
            just(n);
        }

        void become(Thing t) {
            sort = t.sort;
            map = t.map;
            mark = t.mark;
            written = t.written;
            if (t.hasValue()) {
                sayings(t);
            }
        }

        boolean hasValue() {
            return sort == NUMBER || sort == PACKET || sort == ITEM;
        }

        /** The bytes of a slot that have numbers. */
        int numberBytes() {
            return sort == NOTHING ? written : sort == NUMBER ? 255 : 0;
        }

        /** Is joined with t, or widened by it: whether that made it another one. */
        boolean meet(Thing t, boolean widens, Value room) {
            if (sort == NOTHING || sort != t.sort || map != t.map || mark != t.mark) {
                int both = numberBytes() & t.numberBytes();
                boolean other = sort != NOTHING || both != written;
                becomeNothing();
                written = both;
                return other;
            }
            if (!hasValue() || sameSayings(t)) {
                return false;
            }
            if (widens) {
                room.widen(this, t);
            } else {
                room.join(this, t);
            }
            boolean other = !sameSayings(room);
            sayings(room);
            return other;
        }
    }

    /** The things of registers and slots, and how many bytes of the packet are KNOWN, at a place. */
    static final class State {
        /** Registers first, then slots. */
        final Thing[] things = new Thing[REGISTERS + SLOTS];
        long known;
        int changes;
        /** Whether it got a state in this check. */
        boolean there;
        /** Whether it became another one since it was gone through. */
        boolean fresh;

        State() {
            for (int i = 0; i < things.length; i++) {
                things[i] = new Thing();
            }
        }

        void begin() {
            for (int i = 0; i < things.length; i++) {
                things[i].becomeNothing();
            }
            things[1].become(CONTEXT, 0, 0);
            things[10].become(STACK, 0, 0);
            known = 0;
        }

        void become(State s) {
            for (int i = 0; i < things.length; i++) {
                things[i].become(s.things[i]);
            }
            known = s.known;
        }

        /** Is joined with s, or widened by it: whether that made it another one. */
        boolean meet(State s, boolean widens, Value room) {
            boolean other = s.known < known;
            known = Math.min(known, s.known);
            for (int i = 0; i < things.length; i++) {
                other |= things[i].meet(s.things[i], widens, room);
            }
            return other;
        }

        Thing slotAt(long a) {
            return things[REGISTERS + ((int) (a + STACK_BYTES) >> 3 & SLOTS - 1)];
        }

        void know(long bytes) {
            known = Math.max(known, bytes);
        }

        void forgetMaybe(int place) {
            for (int i = 0; i < things.length; i++) {
                if (things[i].sort == MAYBE && things[i].mark == place) {
                    things[i].becomeNothing();
                }
            }
        }

        void settleMaybe(long place, boolean found) {
            for (int i = 0; i < things.length; i++) {
                Thing t = things[i];
                if (t.sort == MAYBE && t.mark == place) {
                    t.become(found ? ITEM : NUMBER, found ? t.map : 0, 0);
                    t.just(0);
                }
            }
        }

        void forgetPacket() {
            for (int i = 0; i < things.length; i++) {
                if (things[i].sort == PACKET || things[i].sort == END) {
                    things[i].becomeNothing();
                }
            }
            known = 0;
        }
    }

    /** A row of places, each a word whose lowest byte is the code; and the FORM that they should have. */
    static final class Program {
        final long[] words;

        Program(byte[] row, int length) {
            words = new long[Math.max(0, length / 8)];
            for (int p = 0; p < words.length; p++) {
                words[p] = Store.read(row, 8 * p, 8);
            }
        }

        boolean has(long place) {
            return place >= 0 && place < words.length;
        }

        long word(int place) {
            return place < 0 || place >= words.length ? 0 : words[place];
        }

        /** Whether a place is the second one of two (the code of a second one is 0). */
        boolean isSecond(long place) {
            return place > 0 && place <= words.length && code(words[(int) place - 1]) == WIDE_CODE;
        }

        static int code(long word) {
            return (int) word & 255;
        }

        static int kind(long word) {
            return (int) word & 7;
        }

        /** The highest four bits of the code. */
        static int which(long word) {
            return (int) word >> 4 & 15;
        }

        static boolean byRegister(long word) {
            return (word & 8) != 0;
        }

        static int mode(long word) {
            return (int) word >> 5 & 7;
        }

        /** How many bytes a load or store moves. */
        static int bytes(long word) {
            int z = (int) word >> 3 & 3;
            return z == 3 ? 8 : 4 >> z;
        }

        static int d(long word) {
            return (int) word >> 8 & 15;
        }

        static int s(long word) {
            return (int) word >> 12 & 15;
        }

        static int offset(long word) {
            return (short) (word >> 16);
        }

        static int immediate(long word) {
            return (int) (word >> 32);
        }

        /** The first place that is WRONG, or NONE; rest: bytes stand behind the last whole place. */
        int firstWrong(boolean rest) {
            int places = words.length;
            for (int p = 0; p < places; p++) {
                if (!isInstruction(p)) {
                    return p;
                }
                if (code(word(p)) == WIDE_CODE) {
                    p++;
                }
            }
            if (rest || places == 0) {
                return places;
            }
            for (int p = 0; p < places; p++) {
                if (!isSecond(p) && !goesWell(p)) {
                    return p;
                }
            }
            return NONE;
        }

        private boolean isInstruction(int p) {
            long w = word(p);
            switch (kind(w)) {
                case 0: return isWide(p);
                case 1: return isLoad(w);
                case 2: return s(w) == 0 && mode(w) == 3 && d(w) < REGISTERS;
                case 3: return mode(w) == 6 ? isAtomic(w) : isStore(w);
                case 5: case 6: return isJump(w);
                default: return isReckoning(w);
            }
        }

        private boolean isWide(int p) {
            long w = word(p);
            if (code(w) != WIDE_CODE || d(w) > 9 || s(w) > 1 || offset(w) != 0) {
                return false;
            }
            if (!has(p + 1) || (int) word(p + 1) != 0) {
                return false;
            }
            return s(w) == 0 || immediate(w) >= 0 && immediate(word(p + 1)) == 0;
        }

        private static boolean isLoad(long w) {
            boolean loads = mode(w) == 3 || mode(w) == 4 && bytes(w) < 8;
            return loads && d(w) <= 9 && s(w) < REGISTERS && immediate(w) == 0;
        }

        private static boolean isStore(long w) {
            return mode(w) == 3 && d(w) < REGISTERS && s(w) < REGISTERS && immediate(w) == 0;
        }

        private static boolean isAtomic(long w) {
            if (bytes(w) < 4 || d(w) >= REGISTERS || s(w) >= REGISTERS) {
                return false;
            }
            switch (immediate(w)) {
                case 0: case 64: case 80: case 160: case 241: return true;
                case 1: case 65: case 81: case 161: case 225: return s(w) <= 9;
                default: return false;
            }
        }

        private static boolean isReckoning(long w) {
            int n = which(w);
            int o = offset(w);
            int i = immediate(w);
            boolean wide = kind(w) == 7;
            boolean hasY = byRegister(w);
            if (d(w) > 9 || n > TURN) {
                return false;
            }
            if (n == TURN) {
                return s(w) == 0 && o == 0 && (i == 16 || i == 32 || i == 64) && !(wide && hasY);
            }
            if (hasY ? i != 0 || s(w) >= REGISTERS : s(w) != 0) {
                return false;
            }
            if (n == NEGATE) {
                return !hasY && i == 0 && o == 0;
            }
            if (n == DIVIDE || n == REST) {
                return o == 0 || o == 1;
            }
            return o == 0 || n == MOVE && hasY && (o == 8 || o == 16 || o == 32 && wide);
        }

        private static boolean isJump(long w) {
            int n = which(w);
            int c = code(w);
            if (n == 0 || n == 8 || n == 9) {
                boolean bare = d(w) == 0 && s(w) == 0;
                boolean noOffset = offset(w) == 0;
                boolean noImmediate = immediate(w) == 0;
                return bare && (c == GO_CODE && noImmediate || c == GO_FAR_CODE && noOffset
                        || c == CALL_CODE && noOffset || c == EXIT_CODE && noOffset && noImmediate);
            }
            if (n > 13 || d(w) >= REGISTERS) {
                return false;
            }
            return byRegister(w) ? s(w) < REGISTERS && immediate(w) == 0 : s(w) == 0;
        }

        /** Whether all places to which the instruction at p goes on, or might, are firsts that are there. */
        private boolean goesWell(int p) {
            long w = word(p);
            int c = code(w);
            if (c == EXIT_CODE) {
                return true;
            }
            if (c == GO_FAR_CODE) {
                return isFirst(p + 1L + immediate(w));
            }
            if (c == GO_CODE) {
                return isFirst(p + 1L + offset(w));
            }
            boolean jumps = (kind(w) == 5 || kind(w) == 6) && c != CALL_CODE;
            if (jumps && !isFirst(p + 1L + offset(w))) {
                return false;
            }
            return has(c == WIDE_CODE ? p + 2 : p + 1);
        }

        private boolean isFirst(long place) {
            return has(place) && !isSecond(place);
        }
    }

    /** Goes through a program with all that its registers and slots may have. */
    static final class Checker {
        private static final int PASSES = 256;
        private static final long FARTHEST = 1L << 29;
        /** By the highest four bits of a jump's code. */
        private static final int[] COMPARISON = {0, 0, 4, 5, 10, 1, 8, 9, 0, 0, 2, 3, 6, 7, 0, 0};

        private final Store store;
        private final State[] states = new State[PLACES];
        /** What goes on to the place that is next, and what goes where the instruction jumps. */
        private final State now = new State(), jumped = new State();
        private final Thing constant = new Thing();
        private final Value left = new Value(), right = new Value(), out = new Value(), room = new Value();
        /** Where these go, or NONE. */
        private int next, target;
        /** The place that refused. */
        int at;

        Checker(Store store) {
            this.store = store;
        }

        /** The number with which a place, then named in at, refuses; 0 when none does. */
        int look(Program program) {
            int places = Math.min(program.words.length, PLACES);
            for (int p = 0; p < PLACES && states[p] != null; p++) {
                states[p].there = false;
                states[p].fresh = false;
            }
            for (int p = 0; p < places; p++) {
                if (states[p] == null) {
                    states[p] = new State();
                }
            }
            now.begin();
            arrive(now, NONE, 0);
            boolean moved = true;
            for (int pass = 0; pass < PASSES && moved; pass++) {
                moved = false;
                for (int p = 0; p < places; p++) {
                    // a state that stayed as it was would bring the others nothing that they have not
                    if (!states[p].fresh) {
                        continue;
                    }
                    states[p].fresh = false;
                    now.become(states[p]);
                    int number = instruction(program, p);
                    if (number != 0) {
                        at = p;
                        return number;
                    }
                    moved |= arrive(now, p, next);
                    moved |= arrive(jumped, p, target);
                }
            }
            at = 0;
            return moved ? TOO_LONG : 0;
        }

        /** A state goes to a place: whether that got a state, or a change. */
        private boolean arrive(State state, int from, int to) {
            if (to < 0 || to >= PLACES || states[to] == null) {
                return false;
            }
            State there = states[to];
            if (!there.there) {
                there.become(state);
                there.there = true;
                there.fresh = true;
                there.changes = 0;
                return true;
            }
            if (!there.meet(state, there.changes >= 2 && from >= to, room)) {
                return false;
            }
            there.changes++;
            there.fresh = true;
            return true;
        }

        /** What the instruction makes of the state now: 0, or the number with which it refuses. */
        private int instruction(Program program, int p) {
            long w = program.word(p);
            next = p + 1;
            target = NONE;
            switch (Program.kind(w)) {
                case 0: return number(program, p);
                case 1: return fetch(w);
                case 2: return keep(w);
                case 3: return Program.mode(w) == 6 ? atomic(w) : keep(w);
                case 5: case 6: break;
                default: return reckon(w);
            }
            switch (Program.code(w)) {
                case GO_CODE: next += Program.offset(w); return 0;
                case GO_FAR_CODE: next += Program.immediate(w); return 0;
                case CALL_CODE: return call(Program.immediate(w), p);
                case EXIT_CODE: next = NONE; return numberIn(0, 6);
                default: return jump(p, w);
            }
        }

        private int number(Program program, int p) {
            long w = program.word(p);
            next = p + 2;
            Thing d = now.things[Program.d(w)];
            if (Program.s(w) == 0) {
                d.becomeJust(w >>> 32 | (long) Program.immediate(program.word(p + 1)) << 32);
                return 0;
            }
            if (store.map(Program.immediate(w)) == null) {
                return 8;
            }
            d.become(MAP, Program.immediate(w), 0);
            return 0;
        }

        /** What a second operand is: the thing of register s, or the number i. */
        private Thing operand(long w) {
            if (Program.byRegister(w)) {
                return now.things[Program.s(w)];
            }
            constant.becomeJust(Program.immediate(w));
            return constant;
        }

        private int reckon(long w) {
            int n = Program.which(w);
            boolean wide = Program.kind(w) == 7;
            Thing d = now.things[Program.d(w)];
            Thing y = operand(w);
            boolean readsD = n != MOVE;
            boolean readsY = n != NEGATE && n != TURN;
            if (readsD && d.sort == NOTHING || readsY && y.sort == NOTHING) {
                return 1;
            }
            if (n == MOVE && wide && Program.offset(w) == 0) {
                d.become(y);
                return 0;
            }
            if (readsD && d.sort != NUMBER || readsY && y.sort != NUMBER) {
                return wide && (n == ADD || n == SUBTRACT) ? moveAddress(n, d, y) : 2;
            }
            if (n == TURN) {
                turn(w, d);
            } else if (Program.offset(w) != 0) {
                reckonWithOffset(n, wide, y, Program.offset(w));
            } else if (n == NEGATE) {
                constant.becomeJust(0);
                reckonNumbers(SUBTRACT, wide, constant, d);
            } else {
                reckonNumbers(n, wide, d, y);
            }
            d.becomeNumber(out);
            return 0;
        }

        private void turn(long w, Value x) {
            boolean turns = Program.kind(w) == 7 || Program.byRegister(w);
            if (turns) {
                out.swap(x, Program.immediate(w));
            } else {
                out.cut(x, Program.immediate(w));
            }
        }

        /** A division with sign, of which nothing is said, or a move with sign. */
        private void reckonWithOffset(int n, boolean wide, Value y, int o) {
            if (n == MOVE) {
                left.extend(y, o);
            } else {
                left.any();
            }
            out.cut(left, wide ? 64 : 32);
        }

        private void reckonNumbers(int n, boolean wide, Value x, Value y) {
            if (wide) {
                out.operate(n, x, y, 63);
                return;
            }
            if (n == SIGNED_RIGHT) {
                left.extend(x, 32);
            } else {
                left.cut(x, 32);
            }
            right.cut(y, 32);
            room.operate(n, left, right, 31);
            out.cut(room, 32);
        }

        private int moveAddress(int n, Thing d, Thing y) {
            Thing base = d.sort == NUMBER ? y : d;
            Thing by = base == d ? y : d;
            if (by.sort != NUMBER || n == SUBTRACT && base != d) {
                return 2;
            }
            if (base.sort == PACKET || base.sort == ITEM) {
                out.operate(n, base, by, 63);
                if (out.least < -FARTHEST || out.greatest > FARTHEST) {
                    return 2;
                }
                d.become(base.sort, base.map, 0);
                d.sayings(out);
                return 0;
            }
            if (base.sort != CONTEXT && base.sort != STACK || !by.single()) {
                return 2;
            }
            long c = n == ADD ? base.mark + by.low : base.mark - by.low;
            if (c < -FARTHEST || c > FARTHEST) {
                return 2;
            }
            d.become(base.sort, 0, c);
            return 0;
        }

        /** Whether z bytes from o behind the address of t may be read or written: 0, 3 or 4. */
        private int reach(Thing t, int o, int z, boolean writes) {
            long a = t.mark + o;
            boolean even = (a & z - 1) == 0;
            // the first 16 bytes of the context are addresses: they are read whole or not at all
            long from = writes ? 32 : z == 8 ? 0 : 16;
            switch (t.sort) {
                case CONTEXT:
                    return a >= from && a <= CONTEXT_BYTES - z && even ? 0 : 4;
                case STACK:
                    return a >= -STACK_BYTES && a <= -z && even ? 0 : 4;
                case PACKET:
                    return within(t, o, z, now.known) ? 0 : 4;
                case ITEM:
                    return within(t, o, z, store.valueSize(t.map)) ? 0 : 4;
                default:
                    return 3;
            }
        }

        /** Whether n bytes at o behind each number of v are among the first ones, so many. */
        private static boolean within(Value v, int o, int n, long first) {
            // bounds so far out can't be inside, and with o they might not be longs
            if (v.least < -2 * FARTHEST || v.greatest > 2 * FARTHEST) {
                return false;
            }
            return v.least + o >= 0 && v.greatest + o + n <= first;
        }

        private int fetch(long w) {
            Thing from = now.things[Program.s(w)];
            Thing d = now.things[Program.d(w)];
            int o = Program.offset(w);
            int z = Program.bytes(w);
            if (from.sort == NOTHING) {
                return 1;
            }
            int number = reach(from, o, z, false);
            if (number != 0) {
                return number;
            }
            long a = from.mark + o;
            if (from.sort == CONTEXT && a == 0) {
                d.become(PACKET, 0, 0);
                d.just(0);
                return 0;
            }
            if (from.sort == CONTEXT && a == 8) {
                d.become(END, 0, 0);
                return 0;
            }
            if (from.sort == STACK) {
                Thing slot = now.slotAt(a);
                if (z == 8 && slot.sort != NOTHING) {
                    d.become(slot);
                    return 0;
                }
                if (!hasNumbers(a, z)) {
                    return 5;
                }
            }
            left.any();
            if (Program.mode(w) == 4) {
                out.extend(left, 8 * z);
            } else {
                out.cut(left, 8 * z);
            }
            d.becomeNumber(out);
            return 0;
        }

        /** Whether n bytes of the stack, which are there, from a on all have numbers. */
        private boolean hasNumbers(long a, int n) {
            for (int k = 0; k < n; k++) {
                int bit = 1 << ((int) (a + k) & 7);
                if ((now.slotAt(a + k).numberBytes() & bit) == 0) {
                    return false;
                }
            }
            return true;
        }

        private int keep(long w) {
            Thing d = now.things[Program.d(w)];
            int o = Program.offset(w);
            int z = Program.bytes(w);
            Thing y = constant;
            if (Program.kind(w) == 3) {
                y = now.things[Program.s(w)];
            } else {
                constant.becomeJust(Program.immediate(w));
            }
            if (d.sort == NOTHING || y.sort == NOTHING) {
                return 1;
            }
            int number = reach(d, o, z, true);
            if (number != 0) {
                return number;
            }
            if (y.sort != NUMBER && (d.sort != STACK || z != 8)) {
                return 6;
            }
            if (d.sort == STACK) {
                writeSlot(d.mark + o, z, y);
            }
            return 0;
        }

        private void writeSlot(long a, int z, Thing y) {
            Thing slot = now.slotAt(a);
            if (z == 8) {
                slot.become(y);
                return;
            }
            int bytes = slot.numberBytes() | (1 << z) - 1 << ((int) a & 7);
            slot.becomeNothing();
            slot.written = bytes;
        }

        private int atomic(long w) {
            Thing d = now.things[Program.d(w)];
            Thing y = now.things[Program.s(w)];
            Thing zero = now.things[0];
            int o = Program.offset(w);
            int z = Program.bytes(w);
            int i = Program.immediate(w);
            boolean exchanges = i == 241;
            if (d.sort == NOTHING || y.sort == NOTHING || exchanges && zero.sort == NOTHING) {
                return 1;
            }
            if (d.sort != ITEM) {
                return 3;
            }
            boolean even = (d.mask & z - 1) == z - 1 && (d.ones + o & z - 1) == 0;
            if (!even || reach(d, o, z, true) != 0) {
                return 4;
            }
            if (y.sort != NUMBER || exchanges && zero.sort != NUMBER) {
                return 6;
            }
            if ((i & 1) != 0) {
                left.any();
                out.cut(left, 8 * z);
                (exchanges ? zero : y).becomeNumber(out);
            }
            return 0;
        }

        /** 0 when register r has a NUMBER, 1 when it has NOTHING, else what is told. */
        private int numberIn(int r, int otherwise) {
            int sort = now.things[r].sort;
            return sort == NUMBER ? 0 : sort == NOTHING ? 1 : otherwise;
        }

        private int jump(int p, long w) {
            int n = Program.which(w);
            boolean five = Program.kind(w) == 5;
            Thing d = now.things[Program.d(w)];
            Thing y = operand(w);
            if (d.sort == NOTHING || y.sort == NOTHING) {
                return 1;
            }
            target = p + 1 + Program.offset(w);
            jumped.become(now);
            if (d.sort == NUMBER && y.sort == NUMBER) {
                compare(w, five, d, y);
                return 0;
            }
            boolean same = n == 1 || n == 5;
            if (five && same && d.sort == MAYBE && y.sort == NUMBER && y.isJust(0)) {
                long place = d.mark;
                jumped.settleMaybe(place, n == 5);
                now.settleMaybe(place, n == 1);
                return 0;
            }
            boolean orders = n == 2 || n == 3 || n == 10 || n == 11;
            if (five && orders && (d.sort == PACKET && y.sort == END || d.sort == END && y.sort == PACKET)) {
                measure(n, d, y);
                return 0;
            }
            return 2;
        }

        /** Refines the states of both ways of a jump by two numbers, and shuts those that can't be. */
        private void compare(long w, boolean five, Thing d, Thing y) {
            boolean byRegister = Program.byRegister(w);
            if (byRegister && d == y) {
                return;
            }
            long number = five ? Program.immediate(w) : w >>> 32;
            constant.becomeJust(number);
            if (!five && (!isSmall(d) || !isSmall(y))) {
                return;
            }
            int c = COMPARISON[Program.which(w)];
            Thing dThere = jumped.things[Program.d(w)];
            Thing yThere = byRegister ? jumped.things[Program.s(w)] : constant;
            if (!Value.refine(c, dThere, yThere)) {
                target = NONE;
            }
            // with the other way the constant starts anew
            constant.becomeJust(number);
            if (!Value.refine(Value.opposite(c), d, y)) {
                next = NONE;
            }
        }

        private static boolean isSmall(Value v) {
            return v.least >= 0 && v.greatest <= Integer.MAX_VALUE;
        }

        /** A comparison of an address in the packet with its end tells how many bytes there are. */
        private void measure(int n, Thing d, Thing y) {
            boolean packetFirst = d.sort == PACKET;
            Thing address = packetFirst ? d : y;
            if (!address.single() || address.low < 0) {
                return;
            }
            long value = address.low;
            switch (n) {
                case 2:
                    if (packetFirst) {
                        now.know(value);
                    } else {
                        jumped.know(value + 1);
                    }
                    break;
                case 3:
                    if (packetFirst) {
                        now.know(value + 1);
                    } else {
                        jumped.know(value);
                    }
                    break;
                case 10:
                    if (packetFirst) {
                        jumped.know(value + 1);
                    } else {
                        now.know(value);
                    }
                    break;
                default:
                    if (packetFirst) {
                        jumped.know(value);
                    } else {
                        now.know(value + 1);
                    }
                    break;
            }
        }

        private int call(int i, int p) {
            int number = allowed(i);
            if (number != 0) {
                return number;
            }
            int map = now.things[1].map;
            if (i == SEEK) {
                now.forgetMaybe(p);
            }
            if (i == TRIM) {
                now.forgetPacket();
            }
            for (int r = 1; r <= 5; r++) {
                now.things[r].becomeNothing();
            }
            if (i == SEEK) {
                now.things[0].become(MAYBE, map, p);
            } else {
                out.any();
                now.things[0].becomeNumber(out);
            }
            return 0;
        }

        /** Looks at the registers of a call: 0, or the number with which it refuses. */
        private int allowed(int i) {
            Thing one = now.things[1];
            Thing three = now.things[3];
            if (i == CLOCK || i < SEEK || i > TRIM) {
                return i == CLOCK ? 0 : 7;
            }
            if (one.sort == NOTHING) {
                return 1;
            }
            if (i == TRIM) {
                return one.sort == CONTEXT && one.mark == 0 ? numberIn(2, 8) : 8;
            }
            BoxMap map = one.sort == MAP ? store.map(one.map) : null;
            if (map == null || !takesCall(map, i)) {
                return 8;
            }
            if (i == SEND) {
                int number = numberIn(3, 8);
                if (number == 0 && (three.least < 1 || three.greatest > 256)) {
                    number = 8;
                }
                return number != 0 ? number : tells(2, (int) three.greatest);
            }
            int number = tells(2, map.keySize);
            if (i == PUT && number == 0) {
                number = tells(3, map.valueSize);
            }
            return i == PUT && number == 0 ? numberIn(4, 8) : number;
        }

        private static boolean takesCall(BoxMap map, int i) {
            switch (i) {
                case SEND: return map.kind == RING;
                case DROP: return map.kind == TABLE;
                default: return map.kind != RING;
            }
        }

        /** Whether register r tells n bytes: 0, 1, 3, 4 or 5. */
        private int tells(int r, int n) {
            Thing t = now.things[r];
            switch (t.sort) {
                case NOTHING:
                    return 1;
                case PACKET:
                    return within(t, 0, n, now.known) ? 0 : 4;
                case ITEM:
                    return within(t, 0, n, store.valueSize(t.map)) ? 0 : 4;
                case STACK:
                    if (t.mark < -STACK_BYTES || t.mark > -n) {
                        return 4;
                    }
                    return hasNumbers(t.mark, n) ? 0 : 5;
                default:
                    return 3;
            }
        }
    }

    /** A map; as it stands here, an ARRAY. */
    static class BoxMap {
        final int kind;
        final int keySize;
        final int valueSize;
        final int entries;
        final byte[] row;
        /** Where in the row it begins, and how far its entries are from one another. */
        final int start;
        final int stride;

        BoxMap(int kind, int keySize, int valueSize, int entries, byte[] row, int start) {
            this.kind = kind;
            this.keySize = keySize;
            this.valueSize = valueSize;
            this.entries = entries;
            this.row = row;
            this.start = start;
            this.stride = Store.filledUp(valueSize);
        }

        final int whereIs(int entry) {
            return start + entry * stride;
        }

        /** Writes a value, which stands in from, into an entry. */
        final void writeValue(int entry, byte[] from, int at) {
            System.arraycopy(from, at, row, whereIs(entry), valueSize);
        }

        static boolean areFlags(int flags) {
            return flags >= 0 && flags <= THERE;
        }

        int held() {
            return entries;
        }

        /** The entry for the key that stands in from, or NONE. */
        int entryOf(byte[] from, int at) {
            long n = Store.read(from, at, 4);
            return n < entries ? (int) n : NONE;
        }

        int put(byte[] keys, int keyAt, byte[] values, int valueAt, int flags) {
            if (!areFlags(flags)) {
                return UNFIT;
            }
            int entry = entryOf(keys, keyAt);
            if (entry == NONE) {
                return TOO_MUCH;
            }
            if (flags == NEW) {
                return KEY_THERE;
            }
            writeValue(entry, values, valueAt);
            return 0;
        }

        int drop(byte[] from, int at) {
            return UNFIT;
        }

        /** Writes the key behind that of an entry (of none: the first one) at to: its entry, or NONE. */
        int follow(int entry, byte[] to, int at) {
            return UNFIT;
        }

        /** Puts a record. */
        int send(byte[] from, int bytes) {
            return UNFIT;
        }

        /** How many bytes the oldest record has, or the answer. */
        int due() {
            return UNFIT;
        }

        /** Takes the oldest record, which has so many bytes. */
        void draw(byte[] to, int at, int bytes) {
        }
    }

    /** A TABLE: entries with the same hash are in one chain. */
    static final class Table extends BoxMap {
        private final byte[] keys;
        private final boolean[] taken;
        /** The first entry of each chain and the one behind each entry, 1 more than its number, 0 for none. */
        private final int[] heads;
        private final int[] links;
        private int count;
        /** No entry below this one is free. */
        private int firstFree;

        Table(int keySize, int valueSize, int entries, byte[] row, int start) {
            super(TABLE, keySize, valueSize, entries, row, start);
            keys = new byte[Math.max(0, keySize * entries)];
            taken = new boolean[Math.max(0, entries)];
            int chains = 1;
            for (int n = 2; n <= entries && n > 0; n *= 2) {
                chains = n;
            }
            heads = new int[chains];
            links = new int[Math.max(0, entries)];
        }

        private int chainOf(byte[] from, int at) {
            int hash = 0;
            for (int k = 0; k < keySize; k++) {
                hash = 31 * hash + from[at + k];
            }
            return (hash ^ hash >>> 15) & heads.length - 1;
        }

        private boolean hasKey(int entry, byte[] from, int at) {
            for (int k = 0; k < keySize; k++) {
                if (keys[entry * keySize + k] != from[at + k]) {
                    return false;
                }
            }
            return true;
        }

        int held() {
            return count;
        }

        int entryOf(byte[] from, int at) {
            int link = heads[chainOf(from, at)];
            for (int k = 0; k < entries && link != 0; k++) {
                if (hasKey(link - 1, from, at)) {
                    return link - 1;
                }
                link = links[link - 1];
            }
            return NONE;
        }

        int put(byte[] from, int keyAt, byte[] values, int valueAt, int flags) {
            if (!areFlags(flags)) {
                return UNFIT;
            }
            int entry = entryOf(from, keyAt);
            if (entry != NONE && flags == NEW) {
                return KEY_THERE;
            }
            if (entry == NONE && flags == THERE) {
                return NO_KEY;
            }
            if (entry == NONE) {
                if (count >= entries) {
                    return TOO_MUCH;
                }
                entry = occupy(from, keyAt);
            }
            writeValue(entry, values, valueAt);
            return 0;
        }

        /** Gives the first free entry, there being one, to a key. */
        private int occupy(byte[] from, int at) {
            int entry = Math.min(firstFree, entries - 1);
            while (entry < entries - 1 && taken[entry]) {
                entry++;
            }
            firstFree = entry + 1;
            count++;
            taken[entry] = true;
            System.arraycopy(from, at, keys, entry * keySize, keySize);
            int chain = chainOf(from, at);
            links[entry] = heads[chain];
            heads[chain] = entry + 1;
            return entry;
        }

        int drop(byte[] from, int at) {
            int entry = entryOf(from, at);
            if (entry == NONE) {
                return NO_KEY;
            }
            unchain(entry, chainOf(from, at));
            taken[entry] = false;
            count--;
            firstFree = Math.min(firstFree, entry);
            return 0;
        }

        private void unchain(int entry, int chain) {
            if (heads[chain] == entry + 1) {
                heads[chain] = links[entry];
                return;
            }
            int before = heads[chain];
            for (int k = 0; k < entries && before != 0; k++) {
                if (links[before - 1] == entry + 1) {
                    links[before - 1] = links[entry];
                    return;
                }
                before = links[before - 1];
            }
        }

        int follow(int entry, byte[] to, int at) {
            for (int e = entry + 1; e < entries; e++) {
                if (taken[e]) {
                    System.arraycopy(keys, e * keySize, to, at, keySize);
                    return e;
                }
            }
            return NONE;
        }
    }

    /** A RING. */
    static final class Ring extends BoxMap {
        private static final int MOST = 256, HEADER = 8;

        private long head;
        private long tail;
        /** How many records were put, going round. */
        private int records;
        private boolean broken;

        Ring(int entries, byte[] row, int start) {
            super(RING, 0, 0, entries, row, start);
        }

        /** Where the byte with a count stands (the entries are a power of 2). */
        private int spot(long c) {
            return start + (int) (c & entries - 1);
        }

        private void write(long c, int bytes, int v) {
            for (int k = 0; k < bytes; k++) {
                row[spot(c + k)] = (byte) (v >> 8 * k);
            }
        }

        private int sizeAt(long c) {
            int v = 0;
            for (int k = 3; k >= 0; k--) {
                v = v << 8 | row[spot(c + k)] & 255;
            }
            return v;
        }

        int held() {
            return (int) (head - tail);
        }

        int entryOf(byte[] from, int at) {
            return NONE;
        }

        int put(byte[] from, int keyAt, byte[] values, int valueAt, int flags) {
            return UNFIT;
        }

        int send(byte[] from, int bytes) {
            if (broken || bytes < 1 || bytes > MOST || bytes > from.length) {
                return UNFIT;
            }
            int all = Store.filledUp(HEADER + bytes);
            if (head - tail + all > entries) {
                return NO_ROOM;
            }
            write(head, 4, bytes);
            write(head + 4, 4, records);
            for (int k = 0; k < bytes; k++) {
                row[spot(head + HEADER + k)] = from[k];
            }
            write(head + HEADER + bytes, all - HEADER - bytes, 0);
            head += all;
            records++;
            return 0;
        }

        int due() {
            if (broken) {
                return UNFIT;
            }
            if (head == tail) {
                return NO_KEY;
            }
            int bytes = sizeAt(tail);
            broken = bytes < 1 || bytes > MOST || tail + Store.filledUp(HEADER + bytes) > head;
            return broken ? UNFIT : bytes;
        }

        void draw(byte[] to, int at, int bytes) {
            for (int k = 0; k < bytes; k++) {
                to[at + k] = row[spot(tail + HEADER + k)];
            }
            tail += Store.filledUp(HEADER + bytes);
        }
    }

    /** The bytes outside of programs, the maps and the clock. */
    static final class Store {
        private static final int GRAIN = 8, ALWAYS = -1;

        final byte[] packetBytes = new byte[PACKET_BYTES];
        int packetSize;
        final byte[] contextBytes = new byte[CONTEXT_BYTES];
        final byte[] deskBytes = new byte[DESK_BYTES];
        final byte[] areaBytes = new byte[AREA_BYTES];
        /** How many bytes of the area maps have. */
        int given;
        final BoxMap[] maps = new BoxMap[MOST_MAPS];
        int mapCount;
        long time;
        /** Of each eight bytes of the area: how many are a value's, and which run was led there last. */
        private final byte[] valueBytes = new byte[AREA_BYTES / GRAIN];
        private final int[] ledBy = new int[AREA_BYTES / GRAIN];

        static int filledUp(int bytes) {
            return bytes + 7 & ~7;
        }

        /** The number of n bytes, which are there, from a byte on. */
        static long read(byte[] row, int at, int n) {
            long v = 0;
            for (int k = n - 1; k >= 0; k--) {
                v = v << 8 | row[at + k] & 255;
            }
            return v;
        }

        static void write(byte[] row, int at, int n, long v) {
            for (int k = 0; k < n; k++) {
                row[at + k] = (byte) (v >> 8 * k);
            }
        }

        static boolean isShape(int kind, int key, int value, int entries) {
            if (kind == RING) {
                return key == 0 && value == 0 && entries >= 64 && entries <= 16384 && Integer.bitCount(entries) == 1;
            }
            boolean keyFits = kind == ARRAY ? key == 4 : kind == TABLE && key >= 1 && key <= 32;
            return keyFits && value >= 1 && value <= 256 && entries >= 1 && entries <= 4096;
        }

        /** How many bytes of the area a map gets; a ring has values of no bytes. */
        static int bytesOf(int value, int entries) {
            return value == 0 ? entries : entries * filledUp(value);
        }

        /** Makes a map that is as it should be and for which there is room: its number. */
        int addMap(int kind, int key, int value, int entries) {
            BoxMap map;
            if (kind == RING) {
                map = new Ring(entries, areaBytes, given);
            } else if (kind == TABLE) {
                map = new Table(key, value, entries, areaBytes, given);
            } else {
                map = new BoxMap(ARRAY, key, value, entries, areaBytes, given);
            }
            for (int e = 0; e < entries && kind != RING; e++) {
                for (int k = 0; k < value; k += GRAIN) {
                    int grain = (map.whereIs(e) + k) / GRAIN;
                    valueBytes[grain] = (byte) Math.min(GRAIN, value - k);
                    ledBy[grain] = kind == ARRAY ? ALWAYS : 0;
                }
            }
            given += bytesOf(value, entries);
            maps[mapCount] = map;
            mapCount++;
            return mapCount - 1;
        }

        /** The map with a number, or null. */
        BoxMap map(long n) {
            return n < 0 || n >= mapCount ? null : maps[(int) n];
        }

        /** How many bytes values of a map have; of none 0. */
        int valueSize(int n) {
            BoxMap map = map(n);
            return map == null ? 0 : map.valueSize;
        }

        /** Run number run was led to the value of an entry. */
        void lead(BoxMap map, int entry, int run) {
            for (int k = 0; k < map.valueSize && map.kind == TABLE; k += GRAIN) {
                ledBy[(map.whereIs(entry) + k) / GRAIN] = run;
            }
        }

        /** Whether there is such a byte of the area, and it is one of a value to which a run was led. */
        boolean isLed(long at, int run) {
            if (at < 0 || at >= AREA_BYTES) {
                return false;
            }
            int grain = (int) at / GRAIN;
            return at % GRAIN < valueBytes[grain] && (ledBy[grain] == run || ledBy[grain] == ALWAYS);
        }
    }

    /** Runs programs that were let in. */
    static final class Machine {
        private static final long PACKET_AT = 1L << 30;
        private static final long CONTEXT_AT = PACKET_AT + 4096, STACK_AT = PACKET_AT + 8192, AREA_AT = PACKET_AT + 65536;

        private final Store store;
        /** One for each number of four bits. */
        private final long[] registers = new long[16];
        /** Which registers have something, a bit for each. */
        private int filled;
        private final byte[] stack = new byte[STACK_BYTES];
        private final boolean[] written = new boolean[STACK_BYTES];
        private final byte[] key = new byte[32];
        private final byte[] value = new byte[256];
        private int runs;
        private int next;
        long lastResult;
        int lastPlace = NONE;
        int stepCount;
        int breachCount;

        Machine(Store store) {
            this.store = store;
        }

        int go(Program program, int fuel) {
            begin();
            for (int step = 0; step < fuel; step++) {
                lastPlace = next;
                stepCount = step;
                if (!program.has(next) || program.isSecond(next)) {
                    breachCount++;
                    return FUEL;
                }
                stepCount++;
                long w = program.word(next);
                if (Program.code(w) == EXIT_CODE) {
                    lastResult = get(0);
                    return EXIT;
                }
                next++;
                if (Program.code(w) == CALL_CODE) {
                    call(Program.immediate(w));
                } else {
                    instruction(program, w);
                }
            }
            lastPlace = next;
            stepCount = fuel;
            return FUEL;
        }

        private void begin() {
            runs++;
            next = 0;
            filled = 0;
            for (int k = 0; k < STACK_BYTES; k++) {
                written[k] = false;
            }
            tellPacket();
            set(1, CONTEXT_AT);
            set(10, STACK_AT + STACK_BYTES);
        }

        private void tellPacket() {
            Store.write(store.contextBytes, 0, 8, PACKET_AT);
            Store.write(store.contextBytes, 8, 8, PACKET_AT + store.packetSize);
        }

        private long get(int r) {
            if ((filled >> r & 1) == 0) {
                breachCount++;
                return 0;
            }
            return registers[r];
        }

        private void set(int r, long v) {
            registers[r] = v;
            filled |= 1 << r;
        }

        private void instruction(Program program, long w) {
            switch (Program.kind(w)) {
                case 0:
                    set(Program.d(w), w >>> 32 | (long) Program.immediate(program.word(next)) << 32);
                    next++;
                    break;
                case 1:
                    fetch(w);
                    break;
                case 2:
                    write(get(Program.d(w)) + Program.offset(w), Program.bytes(w), Program.immediate(w));
                    break;
                case 3:
                    if (Program.mode(w) == 6) {
                        atomic(w);
                    } else {
                        write(get(Program.d(w)) + Program.offset(w), Program.bytes(w), get(Program.s(w)));
                    }
                    break;
                case 5: case 6:
                    goOn(w);
                    break;
                default:
                    reckon(w);
                    break;
            }
        }

        private void goOn(long w) {
            switch (Program.code(w)) {
                case GO_CODE: next += Program.offset(w); break;
                case GO_FAR_CODE: next += Program.immediate(w); break;
                default: jump(w); break;
            }
        }

        private void fetch(long w) {
            int z = Program.bytes(w);
            long v = read(get(Program.s(w)) + Program.offset(w), z);
            if (Program.mode(w) == 4) {
                int shift = 64 - 8 * z;
                v = v << shift >> shift;
            }
            set(Program.d(w), v);
        }

        private long read(long a, int z) {
            long v = 0;
            for (int k = z - 1; k >= 0; k--) {
                v = v << 8 | readByte(a + k) & 255;
            }
            return v;
        }

        private byte readByte(long a) {
            if (a >= STACK_AT && a < STACK_AT + STACK_BYTES) {
                int at = (int) (a - STACK_AT);
                if (written[at]) {
                    return stack[at];
                }
                breachCount++;
                return 0;
            }
            if (a >= PACKET_AT && a < PACKET_AT + store.packetSize) {
                return store.packetBytes[(int) (a - PACKET_AT)];
            }
            if (a >= CONTEXT_AT && a < CONTEXT_AT + CONTEXT_BYTES) {
                return store.contextBytes[(int) (a - CONTEXT_AT)];
            }
            if (store.isLed(a - AREA_AT, runs)) {
                return store.areaBytes[(int) (a - AREA_AT)];
            }
            breachCount++;
            return 0;
        }

        private void write(long a, int z, long v) {
            for (int k = 0; k < z; k++) {
                writeByte(a + k, (byte) (v >> 8 * k));
            }
        }

        private void writeByte(long a, byte v) {
            if (a >= STACK_AT && a < STACK_AT + STACK_BYTES) {
                stack[(int) (a - STACK_AT)] = v;
                written[(int) (a - STACK_AT)] = true;
            } else if (a >= PACKET_AT && a < PACKET_AT + store.packetSize) {
                store.packetBytes[(int) (a - PACKET_AT)] = v;
            } else if (a >= CONTEXT_AT && a < CONTEXT_AT + CONTEXT_BYTES) {
                store.contextBytes[(int) (a - CONTEXT_AT)] = v;
            } else if (store.isLed(a - AREA_AT, runs)) {
                store.areaBytes[(int) (a - AREA_AT)] = v;
            } else {
                breachCount++;
            }
        }

        private void atomic(long w) {
            int z = Program.bytes(w);
            int i = Program.immediate(w);
            long a = get(Program.d(w)) + Program.offset(w);
            long y = get(Program.s(w));
            if ((a & z - 1) != 0) {
                breachCount++;
            }
            long old = read(a, z);
            long put;
            switch (i & ~1) {
                case 0: put = old + y; break;
                case 64: put = old | y; break;
                case 80: put = old & y; break;
                case 160: put = old ^ y; break;
                case 224: put = y; break;
                default: put = old == (get(0) & Bits.lowest(8 * z)) ? y : old; break;
            }
            write(a, z, put);
            if ((i & 1) != 0) {
                set(i == 241 ? 0 : Program.s(w), old);
            }
        }

        private void reckon(long w) {
            int n = Program.which(w);
            int i = Program.immediate(w);
            int o = Program.offset(w);
            int d = Program.d(w);
            boolean wide = Program.kind(w) == 7;
            long x = n == MOVE ? 0 : get(d);
            if (n == TURN) {
                boolean turns = wide || Program.byRegister(w);
                set(d, turns ? Bits.turned(x, i) : x & Bits.lowest(i));
                return;
            }
            long y = Program.byRegister(w) ? get(Program.s(w)) : i;
            if (n == MOVE && o > 0) {
                y = y << 64 - o >> 64 - o;
            }
            boolean signed = o == 1;
            set(d, wide ? reckoned(n, x, y, signed) : reckonedInts(n, (int) x, (int) y, signed) & Bits.lowest(32));
        }

        private static long reckoned(int n, long x, long y, boolean signed) {
            switch (n) {
                case ADD: return x + y;
                case SUBTRACT: return x - y;
                case MULTIPLY: return x * y;
                case DIVIDE: return signed ? signedQuotient(x, y) : Bits.quotient(x, y);
                case OR: return x | y;
                case AND: return x & y;
                case LEFT: return x << y;
                case RIGHT: return x >>> y;
                case NEGATE: return -x;
                case REST: return signed ? x - signedQuotient(x, y) * y : Bits.rest(x, y);
                case XOR: return x ^ y;
                case SIGNED_RIGHT: return x >> y;
                default: return y;
            }
        }

        /** 0 for y 0, and with that the rest is x. */
        private static long signedQuotient(long x, long y) {
            return y == 0 ? 0 : y == -1 ? -x : x / y;
        }

        private static long reckonedInts(int n, int x, int y, boolean signed) {
            switch (n) {
                case LEFT: return x << y;
                case RIGHT: return x >>> y;
                case SIGNED_RIGHT: return x >> y;
                default: break;
            }
            // the lowest 32 bits come out as for longs with these signs, but for divisions without sign
            boolean divides = (n == DIVIDE || n == REST) && !signed;
            long mask = divides ? Bits.lowest(32) : -1L;
            return reckoned(n, x & mask, y & mask, signed);
        }

        private void jump(long w) {
            long x = get(Program.d(w));
            long y = Program.byRegister(w) ? get(Program.s(w)) : Program.immediate(w);
            if (Program.kind(w) == 6) {
                // ints with their sign keep their order among longs, also without sign
                x = (int) x;
                y = (int) y;
            }
            if (holds(Program.which(w), x, y)) {
                next += Program.offset(w);
            }
        }

        private static boolean holds(int n, long x, long y) {
            switch (n) {
                case 1: return x == y;
                case 2: return Bits.below(y, x);
                case 3: return !Bits.below(x, y);
                case 4: return (x & y) != 0;
                case 5: return x != y;
                case 6: return x > y;
                case 7: return x >= y;
                case 10: return Bits.below(x, y);
                case 11: return !Bits.below(y, x);
                case 12: return x < y;
                default: return x <= y;
            }
        }

        private void call(int i) {
            long answer;
            switch (i) {
                case SEEK: answer = seek(store.map(get(1))); break;
                case PUT: answer = put(store.map(get(1))); break;
                case DROP: answer = drop(store.map(get(1))); break;
                case SEND: answer = send(store.map(get(1))); break;
                case CLOCK: answer = store.time; store.time++; break;
                default: answer = trim(get(2)); break;
            }
            // a call leaves nothing in registers 1 to 5
            filled &= ~62;
            set(0, answer);
        }

        private void copy(long a, byte[] to, int n) {
            for (int k = 0; k < n && k < to.length; k++) {
                to[k] = readByte(a + k);
            }
        }

        private long seek(BoxMap map) {
            if (map == null) {
                return 0;
            }
            copy(get(2), key, map.keySize);
            int entry = map.entryOf(key, 0);
            if (entry == NONE) {
                return 0;
            }
            store.lead(map, entry, runs);
            return AREA_AT + map.whereIs(entry);
        }

        private int put(BoxMap map) {
            if (map == null) {
                return UNFIT;
            }
            // both are taken away before anything is written: they may stand in the map itself
            copy(get(2), key, map.keySize);
            copy(get(3), value, map.valueSize);
            return map.put(key, 0, value, 0, (int) get(4));
        }

        private int drop(BoxMap map) {
            if (map == null) {
                return UNFIT;
            }
            copy(get(2), key, map.keySize);
            return map.drop(key, 0);
        }

        private int send(BoxMap map) {
            long bytes = get(3);
            if (map == null || bytes < 1 || bytes > value.length) {
                return UNFIT;
            }
            copy(get(2), value, (int) bytes);
            return map.send(value, (int) bytes);
        }

        private int trim(long n) {
            if (n < 0 || n > store.packetSize) {
                return UNFIT;
            }
            store.packetSize = (int) n;
            tellPacket();
            return 0;
        }
    }
}
