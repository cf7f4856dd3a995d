/** Promises 5 to 7: what the part CHECK says of each instruction, of joins and of passes. */
public final class CheckTest {
    private static final Due due = new Due();
    /** Operations. */
    private static final int ADD = 0, SUB = 1, MUL = 2, DIV = 3, OR = 4, AND = 5, LSH = 6, RSH = 7, NEG = 8, REST = 9, XOR = 10,
            ARSH = 12;
    /** Jumps. */
    private static final int SAME = 1, ABOVE = 2, NOT_BELOW = 3, SHARED = 4, OTHER = 5, MORE = 6, NOT_LESS = 7, BELOW = 10,
            NOT_ABOVE = 11, LESS = 12;
    private static final int ARRAY = 0, TABLE = 1, RING = 2;

    private static Words w() {
        return new Words();
    }

    private static ProgramBox box() {
        ProgramBox x = new ProgramBox();
        x.make(0, 4, 16, 4);
        x.make(1, 5, 12, 4);
        x.make(2, 0, 0, 512);
        return x;
    }

    private static void no(String what, int place, int number, Words w) {
        ProgramBox x = box();
        due.is(what + ": load", w.into(x), -1);
        due.is(what + ": refused", x.refused(), place);
        due.is(what + ": reason", x.reason(), number);
    }

    private static void yes(String what, Words w) {
        ProgramBox x = box();
        due.is(what + ": load", w.into(x), 0);
        due.is(what + ": refused", x.refused(), -1);
        due.is(what + ": reason", x.reason(), 0);
    }

    private static void nothing() {
        no("the exit without a number", 0, 1, w().exit());
        no("the exit with an address", 1, 6, w().copy(0, 1).exit());
        no("the exit with a map", 2, 6, w().map(0, 0).exit());
        no("moved", 0, 1, w().copy(0, 2).exit());
        no("moved, class 4", 0, 1, w().by32(11, 0, 2).exit());
        no("added to", 0, 1, w().add(0, 1).exit());
        no("added", 1, 1, w().move(0, 1).by(ADD, 0, 2).exit());
        no("negated", 0, 1, w().set(NEG, 3, 0).out(0));
        no("turned", 0, 1, w().put(0xd7, 3, 0, 0, 16).out(0));
        no("cut", 0, 1, w().put(0xd4, 3, 0, 0, 16).out(0));
        no("loaded from", 0, 1, w().load(8, 0, 3, 0).out(0));
        no("stored to", 0, 1, w().storeNumber(8, 3, 0, 0).out(0));
        no("stored", 0, 1, w().store(8, 10, -8, 3).out(0));
        no("compared", 0, 1, w().jump(SAME, 3, 0, 0).out(0));
        no("compared with", 0, 1, w().jumpBy(SAME, 1, 3, 0).out(0));
        no("compared, class 6", 0, 1, w().jump32(SAME, 3, 0, 0).out(0));
        yes("a move does not read d", w().copy(3, 1).out(0));
        yes("a load does not read d", w().load(8, 3, 1, 0).out(0));
        no("nothing and no number: the least", 0, 1, w().by(MUL, 1, 3).out(0));
        no("nothing stored to a number", 1, 1, w().move(4, 0).store(8, 4, 0, 3).out(0));
        no("register 5 behind a call", 2, 1, w().move(5, 0).call(5).copy(0, 5).exit());
        no("register 1 behind a call", 1, 1, w().call(5).copy(0, 1).exit());
        yes("register 6 behind a call", w().copy(6, 1).call(5).load(8, 0, 6, 16).exit());
    }

    private static void reckoning() {
        for (int n : new int[] {MUL, DIV, OR, AND, LSH, RSH, REST, XOR, ARSH}) {
            no("an address and a number, " + n, 0, 2, w().set(n, 1, 1).out(0));
            no("a number and an address, " + n, 1, 2, w().move(0, 1).by(n, 0, 1).out(0));
        }
        no("an address negated", 0, 2, w().set(NEG, 1, 0).out(0));
        no("an address turned", 0, 2, w().put(0xd7, 1, 0, 0, 64).out(0));
        no("an address cut", 0, 2, w().put(0xd4, 1, 0, 0, 64).out(0));
        no("an address moved, class 4", 0, 2, w().by32(11, 0, 1).exit());
        no("an address moved with its sign", 0, 2, w().put(0xbf, 0, 1, 32, 0).exit());
        no("an address added to, class 4", 0, 2, w().set32(ADD, 1, 1).out(0));
        no("two addresses added", 0, 2, w().by(ADD, 1, 10).out(0));
        no("two addresses subtracted", 1, 2, w().copy(2, 1).by(SUB, 2, 1).out(0));
        no("an address subtracted from a number", 1, 2, w().move(2, 0).by(SUB, 2, 1).out(0));
        yes("a number and an address added", w().move(2, 16).by(ADD, 2, 1).load(8, 0, 2, 0).exit());
        yes("an address less a number", w().copy(2, 10).set(SUB, 2, 8).storeNumber(8, 2, 0, 5).load(8, 0, 10, -8).exit());
        no("a map and a number", 2, 2, w().map(1, ARRAY).add(1, 0).out(0));
        no("the end and a number", 1, 2, w().load(8, 2, 1, 8).add(2, 0).out(0));
        no("what was perhaps found, and a number", 6, 2, seek(ARRAY).add(0, 0).out(0));
        yes("as far as it goes", w().copy(2, 1).add(2, 1 << 29).add(2, -(1 << 29)).add(2, -(1 << 29)).out(0));
        no("too far", 1, 2, w().copy(2, 1).add(2, (1 << 29) + 1).out(0));
        no("too far back", 1, 2, w().copy(2, 10).add(2, -(1 << 29) - 1).out(0));
        no("too far at last", 2, 2, w().copy(2, 10).add(2, 1 << 29).add(2, 1).out(0));
        no("a great number added", 3, 2, w().copy(2, 10).wide(3, Long.MIN_VALUE).by(ADD, 2, 3).out(0));
        no("the context and one of some numbers", 1, 2, w().load(1, 2, 1, 16).by(ADD, 1, 2).out(0));
        yes("the packet and one of some numbers", w().load(8, 3, 1, 0).load(1, 2, 1, 16).by(ADD, 3, 2).out(0));
        no("the packet and one of all numbers", 2, 2, w().load(8, 3, 1, 0).load(8, 2, 1, 16).by(ADD, 3, 2).out(0));
        yes("the packet as far as it goes", w().load(8, 3, 1, 0).add(3, 1 << 29).set(SUB, 3, 1 << 29).set(SUB, 3, 1 << 29).out(0));
        no("the packet too far", 1, 2, w().load(8, 3, 1, 0).add(3, (1 << 29) + 1).out(0));
        no("the packet too far back", 1, 2, w().load(8, 3, 1, 0).set(SUB, 3, (1 << 29) + 1).out(0));
        no("a number less the packet", 2, 2, w().load(8, 3, 1, 0).move(2, 5).by(SUB, 2, 3).out(0));
    }

    /** Six places: seeks key 0, and register 0 is what was perhaps found. */
    private static Words seek(int map) {
        return w().storeNumber(8, 10, -8, 0).copy(2, 10).add(2, -8).map(1, map).call(1);
    }

    private static void contextAndStack() {
        for (int z = 1; z <= 8; z *= 2) {
            yes("the context, first number", w().load(z, 0, 1, 16).exit());
            yes("the context, last number", w().load(z, 0, 1, 64 - z).exit());
            no("behind the context", 0, 4, w().load(z, 0, 1, 64).exit());
            no("ahead of the context", 0, 4, w().load(z, 0, 1, -z).exit());
            yes("the context is written", w().storeNumber(z, 1, 32, 1).storeNumber(z, 1, 64 - z, 1).out(0));
            no("behind the context, written", 0, 4, w().storeNumber(z, 1, 64, 1).out(0));
            no("not to be written", 0, 4, w().storeNumber(z, 1, 32 - z, 1).out(0));
            no("addresses are not written", 0, 4, w().storeNumber(z, 1, 0, 1).out(0));
            yes("the stack's first", w().storeNumber(z, 10, -512, 1).load(z, 0, 10, -512).exit());
            yes("the stack's last", w().storeNumber(z, 10, -z, 1).load(z, 0, 10, -z).exit());
            no("ahead of the stack", 0, 4, w().storeNumber(z, 10, -512 - z, 1).out(0));
            no("behind the stack", 0, 4, w().storeNumber(z, 10, 0, 1).out(0));
            no("behind the stack, read", 0, 4, w().load(z, 0, 10, 0).exit());
            if (z > 1) {
                no("no multiple in the context", 0, 4, w().load(z, 0, 1, 16 + z / 2).exit());
                no("no multiple in the context, written", 0, 4, w().storeNumber(z, 1, 32 + z / 2, 0).out(0));
                no("no multiple in the stack", 0, 4, w().storeNumber(z, 10, -16 + z / 2, 1).out(0));
            }
            if (z < 8) {
                no("a part of an address", 0, 4, w().load(z, 0, 1, 0).exit());
                no("a part of an address", 0, 4, w().load(z, 0, 1, 8).exit());
                no("a part of an address", 0, 4, w().loadSigned(z, 0, 1, 16 - z).exit());
            }
        }
        no("the packet is no number", 1, 6, w().load(8, 0, 1, 0).exit());
        no("the end is no number", 1, 6, w().load(8, 0, 1, 8).exit());
        yes("c counts", w().copy(2, 1).add(2, 8).load(8, 3, 2, -8).load(8, 0, 2, 8).exit());
        no("c counts", 2, 4, w().copy(2, 1).add(2, 60).load(8, 0, 2, 4).exit());
        no("a number is no address", 1, 3, w().move(2, 0).load(8, 0, 2, 0).exit());
        no("the end is no address", 1, 3, w().load(8, 2, 1, 8).load(1, 0, 2, 0).exit());
        no("a map is no address", 2, 3, w().map(2, ARRAY).load(8, 0, 2, 0).exit());
        no("what was perhaps found is no address", 6, 3, seek(ARRAY).load(8, 0, 0, 0).exit());
        no("stored to a number", 1, 3, w().move(2, 0).storeNumber(8, 2, 0, 0).out(0));
        no("an address into the context", 0, 6, w().store(8, 1, 32, 1).out(0));
        no("an address where nothing is written", 0, 4, w().store(8, 1, 24, 1).out(0));
        no("an address into the number", 1, 3, w().move(2, 0).store(8, 2, 0, 1).out(0));
        no("a part of an address", 0, 6, w().store(4, 10, -4, 1).out(0));
        no("an address beside a slot", 0, 4, w().store(8, 10, -4, 1).out(0));
    }

    private static void slots() {
        yes("an address in a slot", w().store(8, 10, -8, 1).load(8, 2, 10, -8).load(8, 0, 2, 16).exit());
        no("a part of it", 1, 5, w().store(8, 10, -8, 1).load(4, 0, 10, -8).exit());
        no("a byte of it", 1, 5, w().store(8, 10, -8, 1).load(1, 0, 10, -1).exit());
        no("nothing is written", 0, 5, w().load(8, 0, 10, -8).exit());
        no("a byte less", 1, 5, w().storeNumber(1, 10, -8, 1).load(2, 0, 10, -8).exit());
        yes("written", w().storeNumber(1, 10, -8, 1).storeNumber(1, 10, -7, 1).load(2, 0, 10, -8).exit());
        yes("eight bytes of four and four", w().storeNumber(4, 10, -8, 1).storeNumber(4, 10, -4, 1).load(8, 0, 10, -8).exit());
        no("eight bytes of four", 1, 5, w().storeNumber(4, 10, -8, 1).load(8, 0, 10, -8).exit());
        no("the other four", 1, 5, w().storeNumber(4, 10, -8, 1).load(4, 0, 10, -4).exit());
        yes("a part of a number", w().storeNumber(8, 10, -8, 1).loadSigned(2, 0, 10, -6).exit());
        yes("written over a number", w().storeNumber(8, 10, -8, 1).storeNumber(1, 10, -3, 1).load(8, 0, 10, -8).exit());
        no("written over an address", 2, 5, w().store(8, 10, -8, 1).storeNumber(4, 10, -8, 1).load(8, 0, 10, -8).exit());
        yes("the bytes written over an address", w().store(8, 10, -8, 1).storeNumber(4, 10, -8, 1).load(4, 0, 10, -8).exit());
        no("a number keeps its value as a whole", 4, 4,
                w().load(8, 3, 1, 0).storeNumber(8, 10, -8, 0).load(8, 2, 10, -8).by(ADD, 3, 2).load(1, 0, 3, 0).exit());
        yes("its value is that of a whole", needs(4).storeNumber(8, 10, -8, 3).load(8, 2, 10, -8).by(ADD, 6, 2).load(1, 0, 6, 0).exit());
        no("of a part it is any", 11, 4, needs(4).storeNumber(8, 10, -8, 3).load(4, 2, 10, -8).set(AND, 2, 7).by(ADD, 6, 2)
                .load(1, 0, 6, 0).exit());
        no("what bytes are made of is any", 4, 2,
                w().load(8, 3, 1, 0).storeNumber(4, 10, -8, 0).storeNumber(4, 10, -4, 0).load(8, 2, 10, -8).by(ADD, 3, 2).out(0));
        no("one over another slot", 2, 5, w().storeNumber(8, 10, -8, 0).copy(2, 10).load(1, 0, 10, -9).exit());
    }

    private static Words needs(int n) {
        return w().needs(n);
    }

    private static void packet() {
        for (int z = 1; z <= 8; z *= 2) {
            yes("known", needs(z).load(z, 0, 6, 0).exit());
            no("one byte less", 7, 4, needs(z - 1).load(z, 0, 6, 0).exit());
            no("one byte further", 7, 4, needs(z).load(z, 0, 6, 1).exit());
            no("one byte ahead", 7, 4, needs(z).load(z, 0, 6, -1).exit());
            yes("odd addresses", needs(z + 5).load(z, 0, 6, 5).exit());
            yes("written", needs(z).storeNumber(z, 6, 0, 7).out(0));
            no("written beyond", 7, 4, needs(z).storeNumber(z, 6, 1, 7).out(0));
            no("an address written", 7, 6, needs(z).store(z, 6, 0, 1).out(0));
        }
        no("unknown", 1, 4, w().load(8, 2, 1, 0).load(1, 0, 2, 0).exit());
        // each of the comparisons, both ways round: place 4 jumps to 7
        measure(ABOVE, true, 0, 8);
        measure(NOT_BELOW, true, 0, 9);
        measure(BELOW, true, 9, 0);
        measure(NOT_ABOVE, true, 8, 0);
        measure(ABOVE, false, 9, 0);
        measure(NOT_BELOW, false, 8, 0);
        measure(BELOW, false, 0, 8);
        measure(NOT_ABOVE, false, 0, 9);
        yes("the first byte", w().load(8, 6, 1, 0).load(8, 7, 1, 8).move(0, 0).jumpBy(NOT_BELOW, 6, 7, 1).load(1, 0, 6, 0).exit());
        no("no byte", 4, 4, w().load(8, 6, 1, 0).load(8, 7, 1, 8).move(0, 0).jumpBy(ABOVE, 6, 7, 1).load(1, 0, 6, 0).exit());
        for (int n : new int[] {SAME, SHARED, OTHER, MORE, NOT_LESS, LESS, 13}) {
            no("the packet and its end by " + n, 2, 2, w().load(8, 6, 1, 0).load(8, 7, 1, 8).jumpBy(n, 6, 7, 0).out(0));
            no("the end and the packet by " + n, 2, 2, w().load(8, 6, 1, 0).load(8, 7, 1, 8).jumpBy(n, 7, 6, 0).out(0));
        }
        no("class 6", 2, 2, w().load(8, 6, 1, 0).load(8, 7, 1, 8).jumpBy32(ABOVE, 6, 7, 0).out(0));
        no("the packet and itself", 1, 2, w().load(8, 6, 1, 0).jumpBy(ABOVE, 6, 6, 0).out(0));
        no("the end and itself", 1, 2, w().load(8, 6, 1, 8).jumpBy(ABOVE, 6, 6, 0).out(0));
        no("the packet and a number", 1, 2, w().load(8, 6, 1, 0).jump(ABOVE, 6, 8, 0).out(0));
        no("the context and the end", 1, 2, w().load(8, 6, 1, 8).jumpBy(ABOVE, 1, 6, 0).out(0));
        no("one of some addresses tells nothing", 9, 4, w().load(8, 6, 1, 0).load(8, 7, 1, 8).load(1, 3, 1, 16).set(AND, 3, 1)
                .add(3, 8).copy(2, 6).by(ADD, 2, 3).jumpBy(ABOVE, 2, 7, 2).move(0, 0).load(1, 0, 6, 0).exit());
        no("one ahead of the packet tells nothing", 5, 4, w().load(8, 6, 1, 0).load(8, 7, 1, 8).copy(2, 6).add(2, -1)
                .jumpBy(NOT_BELOW, 2, 7, 1).load(1, 0, 6, 0).out(0));
        yes("the greater one stays", needs(8).copy(2, 6).add(2, 4).jumpBy(ABOVE, 2, 7, 2).load(8, 0, 6, 0).exit().out(0));
        no("the less one where ways meet", 13, 4, needs(4).copy(2, 6).add(2, 8).move(0, 0).jumpBy(ABOVE, 2, 7, 1).load(8, 0, 6, 0)
                .load(4, 0, 6, 0).load(4, 0, 6, 1).exit());
        yes("some number within what is known", needs(16).load(1, 2, 6, 0).set(AND, 2, 7).by(ADD, 6, 2).load(8, 0, 6, 1).exit());
        no("some number, one beyond", 10, 4, needs(16).load(1, 2, 6, 0).set(AND, 2, 7).by(ADD, 6, 2).load(8, 0, 6, 2).exit());
        yes("some number less", needs(16).load(1, 2, 6, 0).set(AND, 2, 7).add(6, 8).by(SUB, 6, 2).load(8, 0, 6, -1).exit());
        no("some number less, ahead", 11, 4, needs(16).load(1, 2, 6, 0).set(AND, 2, 7).add(6, 8).by(SUB, 6, 2).load(8, 0, 6, -2).exit());
    }

    /** So many bytes are known where it jumps (place 8), and where it does not (place 5). */
    private static void measure(int n, boolean packetFirst, int jumped, int stayed) {
        for (int known = 7; known <= 10; known++) {
            for (int way = 0; way < 2; way++) {
                Words w = w().load(8, 6, 1, 0).load(8, 7, 1, 8).copy(2, 6).add(2, 8);
                w.jumpBy(n, packetFirst ? 2 : 7, packetFirst ? 7 : 2, 3);
                w.copy(9, 6).load(1, 0, way == 0 ? 6 : 1, way == 0 ? known - 1 : 16).exit();
                w.copy(9, 6).load(1, 0, way == 1 ? 6 : 1, way == 1 ? known - 1 : 16).exit();
                int here = way == 0 ? stayed : jumped;
                String what = "packet and end by " + n + ", " + packetFirst + ", byte " + known + ", way " + way;
                if (known <= here) {
                    yes(what, w);
                } else {
                    no(what, way == 0 ? 6 : 9, 4, w);
                }
            }
        }
    }

    private static Words found(int map) {
        return seek(map).jump(OTHER, 0, 0, 2).out(0);
    }

    private static void items() {
        yes("a value", found(ARRAY).load(8, 1, 0, 8).load(1, 2, 0, 15).storeNumber(2, 0, 13, 1).out(0));
        no("beyond an array's value", 9, 4, found(ARRAY).load(8, 1, 0, 9).out(0));
        no("ahead of it", 9, 4, found(ARRAY).load(1, 1, 0, -1).out(0));
        no("beyond a table's value, filled up or not", 9, 4, found(TABLE).load(4, 1, 0, 9).out(0));
        yes("a table's value", found(TABLE).load(4, 1, 0, 8).out(0));
        no("an address into it", 9, 6, found(TABLE).store(8, 0, 0, 10).out(0));
        yes("where it is 0 it is a number", seek(ARRAY).jump(OTHER, 0, 0, 1).exit().out(0));
        no("where it is not it is none", 7, 6, seek(ARRAY).jump(SAME, 0, 0, 1).exit().exit());
        yes("same: it jumps where it is 0", seek(ARRAY).jump(SAME, 0, 0, 1).load(8, 0, 0, 0).exit());
        no("other: it goes on where it is 0", 7, 3, seek(ARRAY).jump(OTHER, 0, 0, 1).load(8, 0, 0, 0).out(0));
        yes("0 in a register", seek(ARRAY).move(3, 0).jumpBy(SAME, 0, 3, 1).load(8, 0, 0, 0).exit());
        no("0 as register d", 7, 2, seek(ARRAY).move(3, 0).jumpBy(SAME, 3, 0, 1).load(8, 0, 0, 0).exit());
        no("another number", 6, 2, seek(ARRAY).jump(SAME, 0, 1, 1).load(8, 0, 0, 0).exit());
        no("perhaps 0", 8, 2, seek(ARRAY).copy(9, 10).load(1, 3, 10, -8).jumpBy(SAME, 0, 3, 1).load(8, 0, 0, 0).exit());
        no("other comparisons", 6, 2, seek(ARRAY).jump(ABOVE, 0, 0, 1).load(8, 0, 0, 0).exit());
        no("class 6", 6, 2, seek(ARRAY).jump32(SAME, 0, 0, 1).load(8, 0, 0, 0).exit());
        no("an item is not compared", 9, 2, found(ARRAY).jump(SAME, 0, 0, 0).out(0));
        yes("copies are found with it", seek(ARRAY).copy(7, 0).store(8, 10, -16, 0).jump(OTHER, 7, 0, 2).out(0)
                .load(1, 1, 0, 0).load(8, 2, 10, -16).load(1, 1, 2, 15).load(1, 1, 7, 0).out(0));
        yes("copies are 0 with it", seek(ARRAY).copy(7, 0).store(8, 10, -16, 0).jump(SAME, 7, 0, 2).out(0)
                .load(8, 2, 10, -16).by(ADD, 0, 2).by(ADD, 0, 7).exit());
        no("those of another place are not", 17, 3, seek(ARRAY).copy(7, 0).storeNumber(8, 10, -8, 0).copy(2, 10).add(2, -8)
                .map(1, ARRAY).call(1).jump(OTHER, 0, 0, 2).out(0).load(1, 1, 0, 0).load(1, 1, 7, 0).out(0));
        atomics();
    }

    private static void atomics() {
        for (int i : new int[] {0, 1, 64, 65, 80, 81, 160, 161, 225}) {
            yes("atomic " + i, found(ARRAY).move(1, 1).atomic(8, 0, 8, 1, i).atomic(4, 0, 12, 1, i).out(0));
        }
        yes("exchanged if the same", found(ARRAY).copy(6, 0).move(1, 1).move(0, 1).atomic(8, 6, 8, 1, 241).exit());
        no("not without a number in 0", 11, 6, found(ARRAY).copy(6, 0).move(1, 1).atomic(8, 0, 8, 1, 241).out(0));
        no("nothing in 0", 2, 1, w().move(2, 0).move(3, 0).atomic(8, 2, 0, 3, 241).out(0));
        no("what is stored is nothing", 9, 1, found(ARRAY).atomic(8, 0, 0, 5, 0).out(0));
        no("what is stored is no number", 9, 6, found(ARRAY).atomic(8, 0, 0, 10, 0).out(0));
        no("not in the stack", 2, 3, w().storeNumber(8, 10, -8, 0).move(1, 1).atomic(8, 10, -8, 1, 0).out(0));
        no("not in the context", 1, 3, w().move(2, 1).atomic(8, 1, 32, 2, 0).out(0));
        no("not in the packet", 8, 3, needs(8).move(2, 1).atomic(8, 6, 0, 2, 0).out(0));
        no("not where there is nothing", 1, 1, w().move(2, 1).atomic(8, 6, 0, 2, 0).out(0));
        no("no multiple of 8", 10, 4, found(ARRAY).move(1, 1).atomic(8, 0, 4, 1, 0).out(0));
        no("no multiple of 4", 10, 4, found(ARRAY).move(1, 1).atomic(4, 0, 2, 1, 0).out(0));
        no("beyond", 10, 4, found(ARRAY).move(1, 1).atomic(8, 0, 16, 1, 0).out(0));
        no("beyond, in a table", 10, 4, found(TABLE).move(1, 1).atomic(8, 0, 8, 1, 0).out(0));
        yes("the last four bytes of a table's value", found(TABLE).move(1, 1).atomic(4, 0, 8, 1, 0).out(0));
        yes("a multiple with o", found(ARRAY).add(0, 5).move(1, 1).atomic(8, 0, 3, 1, 0).out(0));
        yes("some multiple of 8", found(ARRAY).load(1, 1, 0, 0).set(AND, 1, 8).by(ADD, 0, 1).atomic(8, 0, 0, 1, 0).out(0));
        yes("some multiple of 4, four bytes", found(ARRAY).load(1, 1, 0, 0).set(AND, 1, 12).by(ADD, 0, 1).atomic(4, 0, 0, 1, 0).out(0));
        no("some multiple of 4, eight bytes", 12, 4, found(ARRAY).load(1, 1, 0, 0).set(AND, 1, 4).by(ADD, 0, 1)
                .atomic(8, 0, 0, 1, 0).out(0));
        no("an old number may be any", 12, 2, found(ARRAY).copy(6, 0).move(1, 1).atomic(8, 0, 0, 1, 1).by(ADD, 6, 1).out(0));
        yes("an old number of four bytes is below 2^32", found(ARRAY).move(1, 1).atomic(4, 0, 0, 1, 1).set(RSH, 1, 32)
                .by(ADD, 0, 1).load(8, 0, 0, 8).exit());
        no("but not below 2^31", 13, 4, found(ARRAY).move(1, 1).atomic(4, 0, 0, 1, 1).set(RSH, 1, 31)
                .by(ADD, 0, 1).load(8, 0, 0, 8).exit());
        yes("without one asked for it stays", found(ARRAY).move(1, 1).atomic(8, 0, 0, 1, 0).by(ADD, 0, 1).load(8, 1, 0, 7).out(0));
    }

    private static void calls() {
        for (int i : new int[] {0, 7, -1, 8, Integer.MAX_VALUE, Integer.MIN_VALUE}) {
            no("call " + i, 0, 7, w().call(i).out(0));
        }
        no("a map that is not there", 0, 8, w().map(1, 3).out(0));
        yes("a map that is not there, where none comes", w().out(0).map(1, 3).out(0));
        for (int i = 1; i <= 4; i++) {
            no("call " + i + " without a map", 0, 8, w().call(i).out(0));
            no("call " + i + " with a number", 1, 8, w().move(1, 0).call(i).out(0));
            no("call " + i + " with nothing", 3, 1, w().map(1, RING).call(5).call(i).out(0));
        }
        no("a ring is not sought in", 3, 8, w().storeNumber(8, 10, -8, 0).map(1, RING).call(1).out(0));
        no("no put into a ring", 3, 8, w().storeNumber(8, 10, -8, 0).map(1, RING).call(2).out(0));
        no("no drop from a ring", 3, 8, w().storeNumber(8, 10, -8, 0).map(1, RING).call(3).out(0));
        no("no drop from an array", 5, 8, w().storeNumber(8, 10, -8, 0).copy(2, 10).add(2, -8).map(1, ARRAY).call(3).out(0));
        yes("drop from a table", w().storeNumber(8, 10, -8, 0).copy(2, 10).add(2, -8).map(1, TABLE).call(3).exit());
        no("nothing is sent to an array", 3, 8, w().move(3, 5).map(1, ARRAY).call(4).out(0));
        no("nothing is sent to a table", 3, 8, w().move(3, 5).map(1, TABLE).call(4).out(0));
        keys();
        puts();
        records();
        trims();
        yes("the clock has no registers", w().call(5).exit());
    }

    private static void keys() {
        no("no key", 2, 1, w().map(1, ARRAY).call(1).out(0));
        no("a number as key", 3, 3, w().map(1, ARRAY).move(2, 0).call(1).out(0));
        no("the context as key", 3, 3, w().copy(2, 1).map(1, ARRAY).call(1).out(0));
        no("the end as key", 3, 3, w().load(8, 2, 1, 8).map(1, ARRAY).call(1).out(0));
        no("a map as key", 4, 3, w().map(2, ARRAY).map(1, ARRAY).call(1).out(0));
        no("the stack's end as key", 3, 4, w().copy(2, 10).map(1, ARRAY).call(1).out(0));
        no("a key that is not written", 4, 5, w().copy(2, 10).add(2, -8).map(1, ARRAY).call(1).out(0));
        no("a key behind the stack", 4, 4, w().copy(2, 10).add(2, -3).map(1, ARRAY).call(1).out(0));
        yes("a key at the stack's begin", w().storeNumber(4, 10, -512, 0).copy(2, 10).add(2, -512).map(1, ARRAY).call(1).out(0));
        no("a key ahead of the stack", 4, 4, w().copy(2, 10).add(2, -513).map(1, ARRAY).call(1).out(0));
        yes("a key anywhere", w().storeNumber(8, 10, -8, 0).copy(2, 10).add(2, -7).map(1, ARRAY).call(1).out(0));
        yes("a key over two slots", w().storeNumber(8, 10, -8, 0).storeNumber(4, 10, -12, 0).copy(2, 10).add(2, -10)
                .map(1, ARRAY).call(1).out(0));
        no("a key over a slot that is not written", 5, 5, w().storeNumber(8, 10, -8, 0).copy(2, 10).add(2, -10).map(1, ARRAY)
                .call(1).out(0));
        no("a key in an address", 5, 5, w().store(8, 10, -8, 1).copy(2, 10).add(2, -8).map(1, ARRAY).call(1).out(0));
        no("a table's key is longer", 5, 5, w().storeNumber(4, 10, -8, 0).copy(2, 10).add(2, -8).map(1, TABLE).call(1).out(0));
        yes("an array's is four bytes", w().storeNumber(4, 10, -8, 0).copy(2, 10).add(2, -8).map(1, ARRAY).call(1).out(0));
        yes("a key in the packet", needs(5).copy(2, 6).map(1, TABLE).call(1).out(0));
        no("a key beyond what is known", 10, 4, needs(4).copy(2, 6).map(1, TABLE).call(1).out(0));
        yes("a key in a value", found(TABLE).copy(2, 0).add(2, 7).map(1, TABLE).call(1).out(0));
        no("a key beyond a value", 13, 4, found(TABLE).copy(2, 0).add(2, 8).map(1, TABLE).call(1).out(0));
    }

    private static Words key() {
        return w().storeNumber(8, 10, -8, 0).storeNumber(8, 10, -16, 0).copy(2, 10).add(2, -16).copy(3, 2);
    }

    private static void puts() {
        yes("put", key().move(4, 0).map(1, ARRAY).call(2).exit());
        yes("any flags", key().load(8, 4, 1, 16).map(1, TABLE).call(2).exit());
        no("no flags", 7, 1, key().map(1, TABLE).call(2).exit());
        no("flags are a number", 8, 8, key().copy(4, 10).map(1, TABLE).call(2).exit());
        no("the value first", 9, 4, key().copy(4, 10).add(3, 8).map(1, TABLE).call(2).exit());
        no("no value", 6, 1, w().storeNumber(8, 10, -8, 0).copy(2, 10).add(2, -8).move(4, 0).map(1, TABLE).call(2).exit());
        no("the key before the value", 3, 1, w().move(4, 0).map(1, TABLE).call(2).exit());
        no("a value that is a number", 8, 3, key().move(3, 0).map(1, TABLE).call(2).exit());
        no("a value that is not written", 9, 5, key().move(4, 0).add(3, -8).map(1, TABLE).call(2).exit());
        no("an array's value is longer", 9, 4, key().move(4, 0).add(3, 4).map(1, ARRAY).call(2).exit());
        yes("a table's is not", key().move(4, 0).add(3, 4).map(1, TABLE).call(2).exit());
        no("the key decides, not the value, though its number is less", 8, 4, w().storeNumber(8, 10, -8, 0).copy(2, 10).move(3, 0)
                .move(4, 0).copy(9, 1).copy(8, 1).map(1, ARRAY).call(2).exit());
        no("the value decides, not the flags", 9, 3, key().move(3, 0).copy(9, 1).map(1, ARRAY)
                .call(2).exit());
    }

    private static Words record(int bytes) {
        return w().storeNumber(8, 10, -8, 0).copy(2, 10).add(2, -8).move(3, bytes).map(1, RING);
    }

    private static void records() {
        yes("sent", record(8).call(4).exit());
        yes("the least record", record(1).call(4).exit());
        no("no bytes", 6, 8, record(0).call(4).exit());
        no("less than none", 6, 8, record(-1).call(4).exit());
        no("too many bytes", 6, 8, record(257).call(4).exit());
        no("more than there are", 6, 4, record(9).call(4).exit());
        no("not a number", 7, 8, record(8).copy(3, 10).call(4).exit());
        no("nothing", 5, 1, w().storeNumber(8, 10, -8, 0).copy(2, 10).add(2, -8).map(1, RING).call(4).exit());
        no("register 3 before 2", 3, 8, w().move(3, 0).map(1, RING).call(4).exit());
        no("then register 2", 3, 1, w().move(3, 5).map(1, RING).call(4).exit());
        no("the map before both", 1, 8, w().move(3, 0).call(4).exit());
        yes("1 to 256, as many as its GREATEST", needs(256).load(1, 3, 6, 0).add(3, 1).copy(2, 6).map(1, RING).call(4).exit());
        no("1 to 256, one less is known", 12, 4, needs(255).load(1, 3, 6, 0).add(3, 1).copy(2, 6).map(1, RING).call(4).exit());
        no("0 to 255", 11, 8, needs(256).load(1, 3, 6, 0).copy(2, 6).map(1, RING).call(4).exit());
        no("2 to 257", 12, 8, needs(300).load(1, 3, 6, 0).add(3, 2).copy(2, 6).map(1, RING).call(4).exit());
    }

    private static void trims() {
        yes("trimmed", w().move(2, 5).call(6).exit());
        no("n is no number", 0, 1, w().call(6).exit());
        no("n is an address", 1, 8, w().copy(2, 1).call(6).exit());
        no("not the context", 2, 8, w().move(2, 5).copy(1, 10).call(6).exit());
        no("not the context's begin", 2, 8, w().move(2, 5).add(1, 8).call(6).exit());
        no("nothing", 2, 1, w().call(5).move(2, 5).call(6).exit());
        no("the packet's address is gone", 10, 1, needs(4).copy(9, 1).move(2, 4).call(6).load(1, 0, 6, 0).exit());
        no("the end's, too", 10, 1, needs(4).copy(9, 1).move(2, 4).call(6).copy(0, 7).exit());
        no("in slots, too", 11, 5, needs(4).store(8, 10, -8, 6).copy(9, 1).move(2, 4).call(6).load(8, 0, 10, -8).exit());
        no("nothing is known", 11, 4, needs(4).copy(9, 1).move(2, 4).call(6).load(8, 6, 9, 0).load(1, 0, 6, 0).exit());
        yes("but what is looked at anew", needs(4).copy(9, 1).move(2, 4).call(6).load(8, 6, 9, 0).load(8, 7, 9, 8).copy(8, 6).add(8, 1)
                .jumpBy(ABOVE, 8, 7, 1).load(1, 0, 6, 0).exit());
        yes("items stay", found(ARRAY).copy(8, 0).copy(9, 10).call(5).load(1, 0, 8, 0).exit());
    }

    private static void jumps() {
        yes("a way that can't be is not gone", w().move(2, 5).jump(SAME, 2, 5, 1).exit().out(0));
        yes("nor the other one", w().move(2, 5).move(0, 0).jump(SAME, 2, 6, 1).exit().copy(0, 1).exit());
        no("class 6 of numbers from 2^31 on: both ways", 2, 1, w().move(2, -5).jump32(SAME, 2, -5, 1).exit().out(0));
        no("class 6, the other number", 2, 1, w().move(2, 5).jump32(10, 2, -5, 1).exit().out(0));
        no("class 6, perhaps below 0: both ways", 4, 1, w().loadSigned(1, 2, 1, 16).jump32(NOT_BELOW, 2, 200, 1).move(0, 0)
                .go(0).exit());
        yes("class 6, not below 0: one way", w().load(1, 2, 1, 16).jump32(ABOVE, 2, 255, 1).move(0, 0).go(0).exit());
        yes("class 6, small ones", w().move(2, 5).jump32(SAME, 2, 5, 1).exit().out(0));
        no("class 6, a number from 2^32 on", 3, 1, w().wide(2, 0x100000005L).jump32(SAME, 2, 5, 1).exit().out(0));
        no("with itself both ways", 2, 1, w().move(2, 5).jumpBy(SAME, 2, 2, 1).exit().out(0));
        yes("with another that is the same", w().move(2, 5).move(3, 5).jumpBy(SAME, 2, 3, 1).exit().out(0));
        no("an address and a number", 0, 2, w().jump(SAME, 1, 0, 0).out(0));
        no("an address and itself", 0, 2, w().jumpBy(SAME, 1, 1, 0).out(0));
        yes("not above 8", needs(16).load(8, 2, 1, 16).jump(ABOVE, 2, 8, 2).by(ADD, 6, 2).load(8, 0, 6, 0).out(0));
        no("not above 9", 10, 4, needs(16).load(8, 2, 1, 16).jump(ABOVE, 2, 9, 2).by(ADD, 6, 2).load(8, 0, 6, 0).out(0));
        yes("below 9", needs(16).load(8, 2, 1, 16).jump(NOT_BELOW, 2, 9, 2).by(ADD, 6, 2).load(8, 0, 6, 0).out(0));
        no("below 10", 10, 4, needs(16).load(8, 2, 1, 16).jump(NOT_BELOW, 2, 10, 2).by(ADD, 6, 2).load(8, 0, 6, 0).out(0));
        no("not more than 8, with sign", 9, 2, needs(16).load(8, 2, 1, 16).jump(MORE, 2, 8, 2).by(ADD, 6, 2).load(8, 0, 6, 0).out(0));
        no("less than 9, with sign", 9, 2, needs(16).load(8, 2, 1, 16).jump(NOT_LESS, 2, 9, 2).by(ADD, 6, 2).load(8, 0, 6, 0).out(0));
        yes("less than 9, not less than 0", needs(16).load(8, 2, 1, 16).jump(LESS, 2, 0, 3).jump(NOT_LESS, 2, 9, 2).by(ADD, 6, 2)
                .load(8, 0, 6, 0).out(0));
        yes("bits that are 0", needs(16).load(8, 2, 1, 16).jump(SHARED, 2, -8, 2).by(ADD, 6, 2).load(8, 0, 6, 1).out(0));
        yes("a register by another one", needs(16).load(8, 2, 1, 16).load(1, 3, 1, 16).set(AND, 3, 7).jumpBy(ABOVE, 2, 3, 2)
                .by(ADD, 6, 2).load(8, 0, 6, 1).out(0));
        yes("and that by the first", needs(16).load(8, 2, 1, 16).move(3, 8).jumpBy(ABOVE, 2, 3, 2).by(ADD, 6, 2).load(8, 0, 6, 0).out(0));
    }

    private static void joins() {
        no("a register of one way alone", 4, 1, w().load(8, 2, 1, 16).jump(SAME, 2, 0, 1).move(0, 0).move(3, 3).exit());
        no("another sort", 6, 1, w().load(8, 2, 1, 16).move(3, 0).move(0, 0).jump(SAME, 2, 0, 1).copy(3, 10).copy(9, 1)
                .copy(4, 3).exit());
        no("another constant", 6, 1, w().load(8, 2, 1, 16).copy(3, 10).move(0, 0).jump(SAME, 2, 0, 1).add(3, -8).copy(9, 1)
                .copy(4, 3).exit());
        yes("the same constant", w().load(8, 2, 1, 16).copy(3, 10).move(0, 0).jump(SAME, 2, 0, 2).add(3, -8).add(3, 8).copy(4, 3).exit());
        no("another map", 8, 1, w().load(8, 2, 1, 16).map(3, 0).move(0, 0).jump(SAME, 2, 0, 2).map(3, 1).copy(9, 1).copy(4, 3).exit());
        yes("values are joined", needs(16).load(8, 2, 1, 16).move(3, 2).jump(SAME, 2, 0, 1).move(3, 8).by(ADD, 6, 3)
                .load(8, 0, 6, 0).load(8, 0, 6, -2).exit());
        no("values are joined", 12, 4, needs(16).load(8, 2, 1, 16).move(3, 2).jump(SAME, 2, 0, 1).move(3, 8).by(ADD, 6, 3)
                .load(8, 0, 6, 1).load(8, 0, 6, -2).exit());
        no("bits are joined", 13, 4, needs(16).load(8, 2, 1, 16).move(3, 2).jump(SAME, 2, 0, 1).move(3, 8).by(ADD, 6, 3)
                .load(8, 0, 6, 0).load(8, 0, 6, -3).exit());
        yes("slots: bytes written in both", twoWays().storeNumber(4, 10, -8, 1).go(1).storeNumber(8, 10, -8, 1)
                .load(4, 0, 10, -8).exit());
        no("slots: a byte of one alone", 6, 5, twoWays().storeNumber(4, 10, -8, 1).go(1).storeNumber(8, 10, -8, 1)
                .load(8, 0, 10, -8).exit());
        no("slots: an address and a number", 6, 5, twoWays().store(8, 10, -8, 10).go(1).storeNumber(8, 10, -8, 1)
                .load(1, 0, 10, -8).exit());
        yes("slots: the same address", twoWays().store(8, 10, -8, 1).go(1).store(8, 10, -8, 1)
                .load(8, 2, 10, -8).load(8, 0, 2, 16).exit());
        no("slots: a number's value goes where the other has bytes alone", 8, 2, w().load(8, 2, 1, 16).storeNumber(4, 10, -4, 1)
                .jump(SAME, 2, 0, 2).storeNumber(4, 10, -8, 1).go(1).storeNumber(8, 10, -8, 1).load(8, 2, 10, -8).load(8, 3, 1, 0)
                .by(ADD, 3, 2).out(0));
        yes("slots: numbers are joined", needs(16).load(8, 2, 1, 16).storeNumber(8, 10, -8, 2).jump(SAME, 2, 0, 1)
                .storeNumber(8, 10, -8, 8).load(8, 2, 10, -8).by(ADD, 6, 2).load(8, 0, 6, 0).exit());
        no("a forward join is none that widens: 0 to 5 and 8 bytes", 19, 4, ways(12));
        yes("a forward join is none that widens: 0 to 5 and 8 bytes", ways(13));
    }

    /** Register 3 is 0, 1, 2, 3 or 5, by five ways that go forward; then 8 bytes from there on are read. */
    private static Words ways(int known) {
        return needs(known).load(8, 2, 1, 16).move(3, 0).jump(SAME, 2, 0, 7).move(3, 1).jump(SAME, 2, 1, 5).move(3, 2)
                .jump(SAME, 2, 2, 3).move(3, 3).jump(SAME, 2, 3, 1).move(3, 5).copy(4, 6).by(ADD, 4, 3).load(8, 0, 4, 0).exit();
    }

    /** Places 3 and 4 are one way, of which the second goes over place 5, the other way. */
    private static Words twoWays() {
        return w().move(0, 0).load(8, 2, 1, 16).jump(SAME, 2, 0, 2);
    }

    private static void passes() {
        yes("a loop without an end", w().go(-1));
        yes("a counted one", w().move(0, 0).add(0, 1).jump(BELOW, 0, 10, -2).exit());
        yes("bound by the jump", needs(16).move(2, 0).move(3, 0).copy(4, 6).by(ADD, 4, 2).load(8, 0, 4, 0).add(2, 1)
                .jump(BELOW, 2, 8, -5).exit());
        no("one beyond", 11, 4, needs(16).move(2, 0).move(3, 0).copy(4, 6).by(ADD, 4, 2).load(8, 0, 4, 0).add(2, 1)
                .jump(BELOW, 2, 10, -5).exit());
        // 0, then joined 0 .. 1, 0 .. 2; that makes 3 not 2 + 1, but what the bits leave: 0 .. 3, 0 .. 7, 0 .. 15
        yes("two changes are joined", counts(10, 3));
        no("two changes are joined", 11, 4, counts(9, 3));
        yes("widened to what the bits leave", counts(11, 4));
        no("the third one is widened", 11, 4, counts(12, 5));
        no("the third one is widened", 11, 4, counts(13, 6));
        yes("widened to what the bits leave", counts(15, 8));
        no("the fourth one, too", 11, 4, counts(16, 9));
        yes("the fourth one, too", counts(23, 16));
        for (int hops = 254; hops <= 257; hops++) {
            Words w = w();
            // it goes to the last place, and from each one back to the place ahead of it; the first of them is the exit
            w.move(0, 0).go(hops).exit();
            for (int k = 0; k < hops; k++) {
                w.go(-2);
            }
            if (hops <= 255) {
                yes(hops + " passes and one", w);
            } else {
                no(hops + " passes", 0, 10, w);
            }
        }
        for (int hops = 255; hops <= 256; hops++) {
            Words w = w().move(0, 0).go(hops + 1).copy(0, 3).exit().go(-3);
            for (int k = 1; k < hops; k++) {
                w.go(-2);
            }
            no("what refuses in the 256th pass comes first", hops == 255 ? 2 : 0, hops == 255 ? 1 : 10, w);
        }
    }

    /** Register 2 counts from 0 on until it is to; in each round 8 bytes from there on are read. */
    private static Words counts(int known, int to) {
        return needs(known).move(2, 0).move(3, 0).copy(4, 6).by(ADD, 4, 2).load(8, 0, 4, 0).add(2, 1).jump(OTHER, 2, to, -5).exit();
    }

    public static void main(String[] args) {
        nothing();
        reckoning();
        contextAndStack();
        slots();
        packet();
        items();
        calls();
        jumps();
        joins();
        passes();
        due.end("refusals");
    }
}
