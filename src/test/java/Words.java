import java.util.ArrayList;
import java.util.List;

/** Puts programs together, and types them, or other bytes, on the tape of a box. */
final class Words {
    private final List<Long> places = new ArrayList<>();

    /** One place. */
    Words put(int code, int d, int s, int o, int i) {
        places.add(code & 255L | (d & 15L) << 8 | (s & 15L) << 12 | (o & 65535L) << 16 | (long) i << 32);
        return this;
    }

    /** Class 7 with i, and with register s. */
    Words set(int n, int d, int i) {
        return put(n << 4 | 7, d, 0, 0, i);
    }

    Words by(int n, int d, int s) {
        return put(n << 4 | 15, d, s, 0, 0);
    }

    /** Class 4 with i, and with register s. */
    Words set32(int n, int d, int i) {
        return put(n << 4 | 4, d, 0, 0, i);
    }

    Words by32(int n, int d, int s) {
        return put(n << 4 | 12, d, s, 0, 0);
    }

    Words move(int d, int i) {
        return set(11, d, i);
    }

    Words copy(int d, int s) {
        return by(11, d, s);
    }

    Words add(int d, int i) {
        return set(0, d, i);
    }

    Words wide(int d, long n) {
        put(24, d, 0, 0, (int) n);
        return put(0, 0, 0, 0, (int) (n >> 32));
    }

    Words map(int d, int k) {
        put(24, d, 1, 0, k);
        return put(0, 0, 0, 0, 0);
    }

    private static int size(int z) {
        return z == 4 ? 0 : z == 2 ? 8 : z == 1 ? 16 : 24;
    }

    Words load(int z, int d, int s, int o) {
        return put(0x61 | size(z), d, s, o, 0);
    }

    Words loadSigned(int z, int d, int s, int o) {
        return put(0x81 | size(z), d, s, o, 0);
    }

    Words store(int z, int d, int o, int s) {
        return put(0x63 | size(z), d, s, o, 0);
    }

    Words storeNumber(int z, int d, int o, int i) {
        return put(0x62 | size(z), d, 0, o, i);
    }

    Words atomic(int z, int d, int o, int s, int i) {
        return put(0xc3 | size(z), d, s, o, i);
    }

    /** Class 5 with i, and with register s. */
    Words jump(int n, int d, int i, int o) {
        return put(n << 4 | 5, d, 0, o, i);
    }

    Words jumpBy(int n, int d, int s, int o) {
        return put(n << 4 | 13, d, s, o, 0);
    }

    /** Class 6 with i, and with register s. */
    Words jump32(int n, int d, int i, int o) {
        return put(n << 4 | 6, d, 0, o, i);
    }

    Words jumpBy32(int n, int d, int s, int o) {
        return put(n << 4 | 14, d, s, o, 0);
    }

    Words go(int o) {
        return put(5, 0, 0, o, 0);
    }

    Words goFar(int i) {
        return put(6, 0, 0, 0, i);
    }

    Words call(int i) {
        return put(133, 0, 0, 0, i);
    }

    Words exit() {
        return put(149, 0, 0, 0, 0);
    }

    /** Register 0 gets a number, and the exit. */
    Words out(int i) {
        return move(0, i).exit();
    }

    /** Registers 6 and 7 get the packet's begin and end; with fewer than n bytes it exits with -1. Six places. */
    Words needs(int n) {
        load(8, 6, 1, 0).load(8, 7, 1, 8).copy(2, 6).add(2, n);
        return jumpBy(11, 2, 7, 2).out(-1);
    }

    int size() {
        return places.size();
    }

    byte[] bytes() {
        byte[] row = new byte[8 * places.size()];
        for (int k = 0; k < row.length; k++) {
            row[k] = (byte) (places.get(k / 8) >> 8 * (k % 8));
        }
        return row;
    }

    static int big(byte[] row, int at) {
        int v = 0;
        for (int k = 0; k < 4; k++) {
            v = v << 8 | (at + k < row.length ? row[at + k] & 255 : 0);
        }
        return v;
    }

    /** What is no full twenty comes first and is cut: so a tape gets as long as it may be. */
    static void type(ProgramBox box, byte[] row) {
        int first = row.length % 20;
        for (int at = first - 20; at < row.length; at += 20) {
            if (at >= 0) {
                box.feed(big(row, at), big(row, at + 4), big(row, at + 8), big(row, at + 12), big(row, at + 16));
            } else if (first > 0) {
                box.feed(big(row, 0), big(row, 4), big(row, 8), big(row, 12), big(row, 16));
                box.end(first);
            }
        }
    }

    /** Loads this program. */
    int into(ProgramBox box) {
        type(box, bytes());
        return box.load();
    }

    static void packet(ProgramBox box, int... bytes) {
        byte[] row = new byte[bytes.length];
        for (int k = 0; k < row.length; k++) {
            row[k] = (byte) bytes[k];
        }
        type(box, row);
        box.packet();
    }
}
