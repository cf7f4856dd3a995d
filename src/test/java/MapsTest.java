/** Promises 4, 19, 23 to 27, and what programs do with maps: arrays, tables, rings. */
public final class MapsTest {
    private static final Due due = new Due();

    private static void make() {
        ProgramBox x = new ProgramBox();
        int[][] bad = {{-1, 4, 8, 1}, {3, 4, 8, 1}, {0, 3, 8, 1}, {0, 5, 8, 1}, {0, 0, 8, 1}, {0, 4, 0, 1}, {0, 4, 257, 1},
            {0, 4, -1, 1}, {0, 4, 8, 0}, {0, 4, 8, 4097}, {0, 4, 8, -1}, {1, 0, 8, 1}, {1, 33, 8, 1}, {1, -1, 8, 1}, {1, 8, 0, 1},
            {1, 8, 257, 1}, {1, 8, 8, 0}, {1, 8, 8, 4097}, {2, 1, 0, 64}, {2, 0, 1, 64}, {2, 4, 8, 64}, {2, 0, 0, 32},
            {2, 0, 0, 63}, {2, 0, 0, 65}, {2, 0, 0, 96}, {2, 0, 0, 32768}, {2, 0, 0, 0}, {2, 0, 0, -64},
            {2, 0, 0, Integer.MIN_VALUE}, {1, Integer.MAX_VALUE, 8, 1}, {1, 8, 8, Integer.MAX_VALUE}};
        for (int[] b : bad) {
            due.argument("4 make " + b[0] + " " + b[1] + " " + b[2] + " " + b[3], x, () -> x.make(b[0], b[1], b[2], b[3]));
        }
        due.is("4 make", x.make(0, 4, 9, 3), 0);
        due.is("4 make", x.make(1, 32, 256, 1), 1);
        due.is("4 make", x.make(2, 0, 0, 64), 2);
        due.is("4 make", x.make(1, 1, 1, 2), 3);
        due.is("4 the next bytes of the area, filled up", where(x, 0, 2), 32);
        due.is("4 the next bytes of the area, filled up", where(x, 3, -1), 48 + 256 + 64);
        for (int k = 4; k < 8; k++) {
            due.is("4 make", x.make(0, 4, 1, 1), k);
        }
        due.state("4 a ninth map", x, () -> x.make(0, 4, 1, 1));
        due.argument("4 a ninth map that is none", x, () -> x.make(0, 4, 0, 1));
    }

    /** Where the value of key n stands; for a table that has only this one value. */
    private static int where(ProgramBox x, int map, int n) {
        x.lay(0, n);
        if (x.find(map, 0) == -1) {
            x.update(map, 0, 0, 0);
        }
        return x.find(map, 0);
    }

    private static void areaIsFull() {
        ProgramBox x = new ProgramBox();
        due.is("4 make", x.make(0, 4, 8, 4096), 0);
        due.is("4 make", x.make(1, 32, 7, 4095), 1);
        due.state("4 too little area", x, () -> x.make(0, 4, 9, 1));
        due.state("4 too little area", x, () -> x.make(2, 0, 0, 64));
        due.is("4 the last of the area", x.make(0, 4, 5, 1), 2);
        due.state("4 no area", x, () -> x.make(0, 4, 1, 1));
        due.is("4 where the last begins", where(x, 2, 0), 65528);
        ProgramBox y = new ProgramBox();
        for (int k = 0; k < 4; k++) {
            due.is("4 rings", y.make(2, 0, 0, 16384), k);
        }
        due.state("4 rings", y, () -> y.make(2, 0, 0, 64));
        ProgramBox z = new ProgramBox();
        due.is("4 largest values", z.make(1, 1, 256, 256), 0);
        due.state("4 largest values", z, () -> z.make(1, 1, 1, 1));
        ProgramBox w = new ProgramBox();
        due.state("4 more than all", w, () -> w.make(0, 4, 256, 4096));
        due.is("4 that changed nothing", w.make(0, 4, 256, 256), 0);
    }

    private static void array() {
        ProgramBox x = new ProgramBox();
        x.make(1, 1, 1, 1);
        x.make(0, 4, 12, 3);
        due.is("19 used of an array", x.used(1), 3);
        x.lay(0, 2);
        x.lay(8, 0x1122334455667788L);
        x.lay(16, -1);
        due.is("24 update", x.update(1, 0, 8, 0), 0);
        due.is("22 area", x.area(8 + 32), 0x1122334455667788L);
        due.is("22 behind the value nothing is written", x.area(8 + 40), 0xffffffffL);
        due.is("23 find", x.find(1, 0), 40);
        due.is("24 THERE", x.update(1, 0, 16, 2), 0);
        due.is("22 area", x.area(40), -1);
        due.is("24 NEW is always there", x.update(1, 0, 8, 1), -17);
        due.is("24 that wrote nothing", x.area(40), -1);
        x.lay(24, 3);
        due.is("23 no such entry", x.find(1, 24), -1);
        due.is("24 no such entry", x.update(1, 24, 8, 0), -7);
        due.is("24 no such entry, NEW", x.update(1, 24, 8, 1), -7);
        due.is("24 no such entry, THERE", x.update(1, 24, 8, 2), -7);
        due.is("24 flags first", x.update(1, 24, 8, 3), -22);
        due.is("24 flags first", x.update(1, 0, 8, -1), -22);
        x.lay(24, 0xffffffffL);
        due.is("23 the key is no number below 0", x.find(1, 24), -1);
        x.lay(24, 0x500000001L);
        due.is("23 a key has four bytes", x.find(1, 24), 24);
        due.is("25 nothing is removed from an array", x.remove(1, 0), -22);
        due.is("25 wherever the key is", x.remove(1, 9999), -22);
        due.is("26 take of an array", x.take(1, 9999), -22);
        due.is("27 next of an array", x.next(1, -7, 9999), -22);
        due.is("23 the last key that is on the desk", x.find(1, 508), 8);
        due.index("23 key behind the desk", x, () -> x.find(1, 509));
        due.index("23 key ahead of the desk", x, () -> x.find(1, -1));
        due.index("24 key behind the desk", x, () -> x.update(1, 509, 0, 7));
        due.index("24 value behind the desk", x, () -> x.update(1, 0, 501, 7));
        due.index("24 value ahead of the desk", x, () -> x.update(1, 0, -1, 0));
        due.is("24 the last value that is on the desk", x.update(1, 0, 500, 0), 0);
        due.is("22 area", x.area(40), 0);
        due.is("19 used of an array", x.used(1), 3);
    }

    private static void table() {
        ProgramBox x = new ProgramBox();
        x.make(1, 3, 4, 3);
        due.is("19 used", x.used(0), 0);
        due.is("27 next of an empty table", x.next(0, -1, 0), -1);
        x.lay(0, 0x99010203L);
        x.lay(8, 0x0102030405060708L);
        due.is("23 find", x.find(0, 0), -1);
        due.is("24 THERE", x.update(0, 0, 8, 2), -2);
        due.is("25 remove", x.remove(0, 0), -2);
        due.is("24 NEW", x.update(0, 0, 8, 1), 0);
        due.is("23 find", x.find(0, 0), 0);
        due.is("22 four bytes", x.area(0), 0x05060708L);
        due.is("24 NEW again", x.update(0, 0, 0, 1), -17);
        x.lay(0, 0x77010203L);
        due.is("24 the fourth byte is not the key's", x.update(0, 0, 0, 2), 0);
        due.is("22 area", x.area(0), 0x77010203L);
        x.lay(16, 5);
        x.lay(24, 6);
        x.lay(32, 7);
        due.is("24 second", x.update(0, 16, 16, 0), 0);
        due.is("24 third", x.update(0, 24, 24, 1), 0);
        due.is("19 used", x.used(0), 3);
        due.is("24 none is free", x.update(0, 32, 32, 0), -7);
        due.is("24 none is free, NEW", x.update(0, 32, 32, 1), -7);
        due.is("24 none is free, THERE", x.update(0, 32, 32, 2), -2);
        due.is("24 NEW of one that is there", x.update(0, 24, 32, 1), -17);
        due.is("24 flags", x.update(0, 32, 32, 3), -22);
        due.is("24 flags", x.update(0, 24, 32, Integer.MIN_VALUE), -22);
        due.is("24 one that is there when none is free", x.update(0, 24, 32, 0), 0);
        due.is("22 area", x.area(16), 7);
        due.is("27 next", x.next(0, -1, 40), 0);
        due.is("21 its key", x.desk(40), 0x010203L);
        due.is("27 next", x.next(0, 40, 40), 1);
        due.is("21 its key", x.desk(40), 5);
        due.is("27 next", x.next(0, 40, 40), 2);
        due.is("21 its key", x.desk(40), 6);
        due.is("27 next", x.next(0, 40, 40), -1);
        due.is("21 nothing is written", x.desk(40), 6);
        due.is("25 remove", x.remove(0, 16), 0);
        due.is("22 its bytes stay", x.area(8), 5);
        due.is("19 used", x.used(0), 2);
        due.is("23 find", x.find(0, 16), -1);
        due.is("25 remove again", x.remove(0, 16), -2);
        due.is("27 next of a key that is not there", x.next(0, 16, 48), 0);
        due.is("27 next over a free one", x.next(0, 48, 48), 2);
        due.is("25 remove", x.remove(0, 0), 0);
        due.is("24 the free entry with the least number", x.update(0, 32, 32, 0), 0);
        due.is("23 find", x.find(0, 32), 0);
        due.is("24 the next free one", x.update(0, 16, 32, 0), 0);
        due.is("23 find", x.find(0, 16), 8);
        tableThrows(x);
    }

    private static void tableThrows(ProgramBox x) {
        due.is("23 a key at the desk's end", x.find(0, 509), -1);
        due.is("27 at the desk's end", x.next(0, 509, 509), 0);
        for (int at : new int[] {-1, 510, 512, Integer.MAX_VALUE, Integer.MIN_VALUE}) {
            due.index("23 find " + at, x, () -> x.find(0, at));
            due.index("24 update " + at, x, () -> x.update(0, at, 0, 0));
            due.index("24 before any answer", x, () -> x.update(0, at, 0, 9));
            due.index("25 remove " + at, x, () -> x.remove(0, at));
            due.index("27 next to " + at, x, () -> x.next(0, -1, at));
            due.index("27 next of " + (at == -1 ? -2 : at), x, () -> x.next(0, at == -1 ? -2 : at, 0));
        }
        due.index("24 value", x, () -> x.update(0, 0, 509, 0));
        due.index("27 also when nothing would be written", x, () -> x.next(0, 24, 510));
        for (int map : new int[] {-1, 1, 8, Integer.MAX_VALUE, Integer.MIN_VALUE}) {
            due.index("19 used " + map, x, () -> x.used(map));
            due.index("23 find in " + map, x, () -> x.find(map, 0));
            due.index("24 update in " + map, x, () -> x.update(map, 0, 0, 0));
            due.index("25 remove from " + map, x, () -> x.remove(map, 0));
            due.index("26 take from " + map, x, () -> x.take(map, 0));
            due.index("27 next in " + map, x, () -> x.next(map, 0, 0));
        }
        due.is("26 take from a table", x.take(0, 9999), -22);
    }

    /** Many keys, some of which share what a hash makes of them, against a plain list. */
    private static void manyKeys() {
        ProgramBox x = new ProgramBox();
        x.make(1, 8, 8, 200);
        long[] keys = new long[200];
        java.util.Random r = new java.util.Random(3);
        for (int round = 0; round < 20000; round++) {
            long key = 1 + r.nextInt(260) * (r.nextBoolean() ? 1L : 0x1f0000001L);
            int at = -1, free = -1;
            for (int e = 199; e >= 0; e--) {
                at = keys[e] == key ? e : at;
                free = keys[e] == 0 ? e : free;
            }
            x.lay(0, key);
            due.is("23 find", x.find(0, 0), at < 0 ? -1 : 8 * at);
            if (r.nextInt(5) < 3) {
                x.lay(8, round);
                due.is("24 update", x.update(0, 0, 8, 0), at < 0 && free < 0 ? -7 : 0);
                at = at < 0 ? free : at;
                if (at >= 0) {
                    keys[at] = key;
                    due.is("22 area", x.area(8 * at), round);
                }
            } else {
                due.is("25 remove", x.remove(0, 0), at < 0 ? -2 : 0);
                if (at >= 0) {
                    keys[at] = 0;
                }
            }
            int above = -1;
            for (int e = 199; e > at; e--) {
                above = keys[e] != 0 ? e : above;
            }
            x.lay(0, key);
            int from = at >= 0 && keys[at] != 0 ? at : -1;
            if (from == at) {
                due.is("27 next", x.next(0, 0, 16), above);
            }
        }
    }

    /** Sends the first i bytes of the packet, i being its first byte, if it has 16. */
    private static Words sender(int map, int bytes) {
        return new Words().needs(16).copy(2, 6).map(1, map).move(3, bytes).call(4).exit();
    }

    private static void ring() {
        ProgramBox x = new ProgramBox();
        x.make(0, 4, 8, 1);
        x.make(2, 0, 0, 64);
        due.is("26 no record", x.take(1, 9999), -2);
        due.is("23 find in a ring", x.find(1, 9999), -22);
        due.is("24 update of a ring", x.update(1, -5, 9999, 77), -22);
        due.is("25 remove from a ring", x.remove(1, -5), -22);
        due.is("27 next of a ring", x.next(1, -5, 9999), -22);
        due.is("5 load", sender(1, 5).into(x), 0);
        due.is("5 load", sender(1, 16).into(x), 1);
        Words.packet(x, 1, 2, 3, 4, 5, 6, 7, 8, 9, 10, 11, 12, 13, 14, 15, 16);
        x.run(0, 99);
        due.is("16 sent", x.result(), 0);
        due.is("19 used", x.used(1), 16);
        due.is("22 size and number", x.area(8), 5);
        due.is("22 bytes, and 0 where it is filled up", x.area(16), 0x0504030201L);
        x.run(1, 99);
        due.is("19 used", x.used(1), 40);
        due.is("22 size and number", x.area(24), 16 | 1L << 32);
        x.run(1, 99);
        due.is("16 just as much as there is room", x.result(), 0);
        due.is("19 used", x.used(1), 64);
        x.run(0, 99);
        due.is("16 no room", x.result(), -11);
        due.is("19 used", x.used(1), 64);
        due.index("26 a byte not on the desk", x, () -> x.take(1, 508));
        due.index("26 a byte not on the desk", x, () -> x.take(1, -1));
        due.index("26 a byte not on the desk", x, () -> x.take(1, Integer.MAX_VALUE));
        x.lay(496, -1);
        x.lay(504, -1);
        due.is("26 take", x.take(1, 507), 5);
        due.is("21 the bytes alone", x.desk(504), 0x0504030201ffffffL);
        due.is("19 used", x.used(1), 48);
        x.run(1, 99);
        due.is("16 no room", x.result(), -11);
        x.run(0, 99);
        due.is("16 it goes round", x.result(), 0);
        due.is("22 where it began", x.area(8), 5 | 3L << 32);
        due.is("26 take", x.take(1, 0), 16);
        due.is("21 desk", x.desk(8), 0x100f0e0d0c0b0a09L);
        x.run(1, 99);
        due.is("22 a record over the end", x.area(24), 16 | 4L << 32);
        due.is("26 take", x.take(1, 0), 16);
        due.is("26 take", x.take(1, 0), 5);
        due.is("26 take", x.take(1, 0), 16);
        due.is("26 none", x.take(1, 0), -2);
        due.is("19 used", x.used(1), 0);
        x.run(0, 99);
        x.run(1, 99);
        due.is("22 the head at the end", x.area(64), 16 | 6L << 32);
        due.is("22 the bytes at the begin", x.area(8), 0x0807060504030201L);
        due.is("26 take", x.take(1, 0), 5);
        due.is("26 take", x.take(1, 0), 16);
        x.run(0, 99);
        x.run(0, 99);
        x.run(1, 99);
        due.is("22 over the end: the first part", x.area(64), 0x0807060504030201L);
        due.is("22 over the end: the second part", x.area(8), 0x100f0e0d0c0b0a09L);
        due.is("26 take", x.take(1, 0), 5);
        due.is("26 take", x.take(1, 0), 5);
        due.is("26 take over the end", x.take(1, 0), 16);
        due.is("21 desk", x.desk(0), 0x0807060504030201L);
        due.is("21 desk", x.desk(8), 0x100f0e0d0c0b0a09L);
        due.is("28 breaches", x.breaches(), 0);
    }

    private static void largestRecord() {
        ProgramBox x = new ProgramBox();
        x.make(2, 0, 0, 512);
        x.make(2, 0, 0, 64);
        x.make(2, 0, 0, 256);
        for (int k = 0; k < 3; k++) {
            Words w = new Words();
            for (int j = 1; j <= 32; j++) {
                w.storeNumber(8, 10, -8 * j, j);
            }
            w.copy(2, 10).add(2, -256).map(1, k).move(3, 256).call(4).exit();
            due.is("5 load", w.into(x), k);
            x.run(k, 99);
            due.is("16 264 bytes in a ring", x.result(), k == 0 ? 0 : -11);
        }
        due.is("19 used", x.used(0), 264);
        due.index("26 the desk is too short", x, () -> x.take(0, 257));
        due.is("26 take", x.take(0, 256), 256);
        due.is("21 the last of it", x.desk(504), 1);
        due.is("21 the first of it", x.desk(256), 32);
    }

    /** What a ring has in the area can't be written by a program; so the bytes are put there from inside. */
    private static void broken() {
        int[][] sizes = {{0, 1}, {257, 1}, {-1, 1}, {Integer.MIN_VALUE, 1}, {9, 1}, {8, 0}, {1, 0}, {Integer.MAX_VALUE, 1}};
        for (int[] s : sizes) {
            byte[] row = new byte[128];
            ProgramBox.Ring ring = new ProgramBox.Ring(64, row, 64);
            due.is("put", ring.send(new byte[8], 8), 0);
            for (int k = 0; k < 4; k++) {
                row[64 + k] = (byte) (s[0] >> 8 * k);
            }
            boolean breaks = s[1] == 1;
            due.is("26 broken", ring.due(), breaks ? -22 : s[0]);
            row[64] = 8;
            row[65] = 0;
            row[66] = 0;
            row[67] = 0;
            due.is("26 for ever", ring.due(), breaks ? -22 : 8);
            due.is("put in a broken one", ring.send(new byte[8], 8), breaks ? -22 : 0);
            due.is("19 HEAD and TAIL stay", ring.held(), breaks ? 16 : 32);
        }
    }

    public static void main(String[] args) {
        make();
        areaIsFull();
        array();
        table();
        manyKeys();
        ring();
        largestRecord();
        broken();
        due.end("answers of maps");
    }
}
