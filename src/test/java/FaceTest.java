/** Promises 1 to 3, 8 to 14, 20 to 22: the tape, the packet, the context, the desk and the area. */
public final class FaceTest {
    private static final Due due = new Due();

    private static void newObject() {
        ProgramBox x = new ProgramBox();
        due.is("1 NONE", ProgramBox.NONE, -1);
        due.is("1 EXIT", ProgramBox.EXIT, 0);
        due.is("1 FUEL", ProgramBox.FUEL, 1);
        due.is("1 programs", x.programs(), 0);
        due.is("1 refused", x.refused(), -1);
        due.is("1 reason", x.reason(), 0);
        due.is("1 size", x.size(), 0);
        due.is("1 result", x.result(), 0);
        due.is("1 place", x.place(), -1);
        due.is("1 steps", x.steps(), 0);
        due.is("1 breaches", x.breaches(), 0);
        due.is("1 tape", Due.tapeLength(x), 0);
        for (int k = 16; k <= 56; k += 8) {
            due.is("1 field", x.field(k), 0);
        }
        for (int k = 0; k <= 504; k++) {
            due.is("1 desk", x.desk(k), 0);
        }
        for (int k = 0; k <= 65528; k += 7) {
            due.is("1 area", x.area(k), 0);
        }
        due.index("1 used", x, () -> x.used(0));
        due.index("1 run", x, () -> x.run(0, 1));
        due.is("1 clock", new Words().call(5).exit().into(x), 0);
        due.is("1 clock", x.run(0, 9), 0);
        due.is("1 clock", x.result(), 0);
    }

    private static void tape() {
        ProgramBox x = new ProgramBox();
        due.is("2 feed", x.feed(0x01020304, 0x05060708, -1, 0x7fff8000, 0x0a0b0c0d), 20);
        due.is("2 feed", x.feed(0x11121314, 0, 0, 0, 0x8899aabb), 40);
        due.argument("3 end below 0", x, () -> end(x, -1));
        due.argument("3 end beyond", x, () -> end(x, 41));
        due.argument("3 end beyond", x, () -> end(x, Integer.MAX_VALUE));
        due.argument("3 end below 0", x, () -> end(x, Integer.MIN_VALUE));
        x.end(40);
        due.is("9 packet", x.packet(), 40);
        int[] want = {1, 2, 3, 4, 5, 6, 7, 8, 255, 255, 255, 255, 127, 255, 128, 0, 10, 11, 12, 13, 17, 18, 19, 20};
        for (int k = 0; k < want.length; k++) {
            due.is("11 at " + k, x.at(k), want[k]);
        }
        due.is("11 at 36", x.at(36), 0x88);
        due.is("11 at 39", x.at(39), 0xbb);
        due.is("9 the tape is used up", Due.tapeLength(x), 0);
        x.feed(-1, -1, -1, -1, -1);
        x.end(3);
        due.is("3 it is cut", x.feed(0x10111213, 0, 0, 0, 0), 23);
        x.end(5);
        x.end(4);
        due.argument("3 what was cut is gone", x, () -> end(x, 5));
        due.is("9 packet", x.packet(), 4);
        due.is("11 at 2", x.at(2), 255);
        due.is("11 at 3", x.at(3), 16);
        x.end(0);
        due.is("9 an empty packet", x.packet(), 0);
        due.is("10 size", x.size(), 0);
    }

    private static int end(ProgramBox x, int n) {
        x.end(n);
        return 0;
    }

    private static void fullTape() {
        ProgramBox x = new ProgramBox();
        for (int k = 1; k <= 409; k++) {
            due.is("2 feed", x.feed(k, k, k, k, k), 20 * k);
        }
        due.state("2 feed beyond 8192", x, () -> x.feed(1, 2, 3, 4, 5));
        due.state("9 packet of 8180", x, () -> x.packet());
        x.end(8172);
        due.is("2 feed up to 8192", x.feed(1, 2, 3, 4, 5), 8192);
        due.state("2 feed at 8192", x, () -> x.feed(1, 2, 3, 4, 5));
        x.end(8173);
        due.state("2 feed at 8173", x, () -> x.feed(1, 2, 3, 4, 5));
        x.end(2049);
        due.state("9 packet of 2049", x, () -> x.packet());
        x.end(2048);
        due.is("9 packet of 2048", x.packet(), 2048);
        due.is("10 size", x.size(), 2048);
        due.is("11 at 2047", x.at(2047), 0x67);
        due.is("11 at 2046", x.at(2046), 0);
        due.index("11 at 2048", x, () -> x.at(2048));
    }

    private static void packet() {
        ProgramBox x = new ProgramBox();
        due.index("11 at of no packet", x, () -> x.at(0));
        Words.packet(x, 200, 1, 255);
        due.is("10 size", x.size(), 3);
        due.is("11 at 0", x.at(0), 200);
        due.is("11 at 2", x.at(2), 255);
        due.index("11 at -1", x, () -> x.at(-1));
        due.index("11 at 3", x, () -> x.at(3));
        due.index("11 at the greatest", x, () -> x.at(Integer.MAX_VALUE));
        due.index("11 at the least", x, () -> x.at(Integer.MIN_VALUE));
        Words.packet(x, 9);
        due.is("10 size", x.size(), 1);
        due.index("11 at 1", x, () -> x.at(1));
    }

    private static int context(ProgramBox x, int from) {
        x.context(from, 5);
        return 0;
    }

    private static void context() {
        ProgramBox x = new ProgramBox();
        for (int k = 16; k <= 56; k += 8) {
            x.context(k, 0x0102030405060708L * k);
        }
        for (int k = 16; k <= 56; k += 8) {
            due.is("13 field " + k, x.field(k), 0x0102030405060708L * k);
        }
        x.context(16, Long.MIN_VALUE);
        due.is("12 context", x.field(16), Long.MIN_VALUE);
        due.is("12 context", x.field(24), 0x0102030405060708L * 24);
        for (int from : new int[] {0, 8, 64, -8, -16, 1 << 20, Integer.MIN_VALUE}) {
            due.index("12 context " + from, x, () -> context(x, from));
            due.index("13 field " + from, x, () -> x.field(from));
        }
        for (int from : new int[] {1, 4, 17, 20, 57, 60, 63, 65, -1, -4, Integer.MAX_VALUE}) {
            due.argument("12 context " + from, x, () -> context(x, from));
            due.argument("13 field " + from, x, () -> x.field(from));
        }
    }

    private static void clock() {
        ProgramBox x = new ProgramBox();
        new Words().call(5).exit().into(x);
        for (long t : new long[] {5, -9, Long.MAX_VALUE}) {
            x.clock(t);
            x.run(0, 5);
            due.is("14 clock", x.result(), t);
            x.run(0, 5);
            due.is("14 clock", x.result(), t + 1);
            x.run(0, 5);
            due.is("14 clock", x.result(), t + 2);
        }
        x.clock(7);
        x.run(0, 1);
        x.run(0, 5);
        due.is("14 it grows also when the run ends with FUEL", x.result(), 8);
    }

    private static int lay(ProgramBox x, int at) {
        x.lay(at, 5);
        return 0;
    }

    private static void desk() {
        ProgramBox x = new ProgramBox();
        x.lay(0, 0x1122334455667788L);
        x.lay(504, -2);
        due.is("21 desk", x.desk(0), 0x1122334455667788L);
        due.is("21 desk from 1", x.desk(1), 0x0011223344556677L);
        due.is("21 desk from 504", x.desk(504), -2);
        x.lay(3, -1);
        due.is("20 lay anywhere", x.desk(0), 0xffffffffff667788L);
        due.is("20 lay anywhere", x.desk(8), 0xffffffL);
        for (int at : new int[] {-1, 505, 512, Integer.MAX_VALUE, Integer.MIN_VALUE}) {
            due.index("20 lay " + at, x, () -> lay(x, at));
            due.index("21 desk " + at, x, () -> x.desk(at));
        }
        for (int at : new int[] {-1, 65529, 65536, Integer.MAX_VALUE, Integer.MIN_VALUE}) {
            due.index("22 area " + at, x, () -> x.area(at));
        }
        due.is("22 the last eight bytes", x.area(65528), 0);
        x.make(0, 4, 8, 2);
        x.lay(100, 1);
        x.lay(108, 0x0807060504030201L);
        x.update(0, 100, 108, 0);
        due.is("22 area", x.area(8), 0x0807060504030201L);
        due.is("22 area from any byte", x.area(11), 0x0807060504L);
        due.is("22 area from any byte", x.area(5), 0x0504030201000000L);
    }

    public static void main(String[] args) {
        newObject();
        tape();
        fullTape();
        packet();
        context();
        clock();
        desk();
        due.end("answers of the face");
    }
}
