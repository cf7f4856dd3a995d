import java.util.Arrays;

/** Promises 5 to 8: the FORM of programs, and how load() takes them. */
public final class FormTest {
    private static final Due due = new Due();

    /** The program is WRONG at a place; -1: it is let in; -2: it has the form, whatever the check says then. */
    private static void form(String what, int place, byte[] row) {
        ProgramBox x = new ProgramBox();
        x.make(0, 4, 8, 1);
        Words.type(x, row);
        int number = x.load();
        if (place == -2) {
            due.is(what + ": it has the form", x.reason() == 9 ? 1 : 0, 0);
            return;
        }
        due.is(what + ": load", number, place == -1 ? 0 : -1);
        due.is(what + ": refused", x.refused(), place);
        due.is(what + ": reason", x.reason(), place == -1 ? 0 : 9);
        due.is(what + ": programs", x.programs(), place == -1 ? 1 : 0);
        due.is(what + ": the tape is used up", Due.tapeLength(x), 0);
    }

    private static void form(String what, int place, Words w) {
        form(what, place, w.bytes());
    }

    private static Words w() {
        return new Words();
    }

    private static void lengths() {
        form("no place", 0, new byte[0]);
        for (int n = 1; n < 8; n++) {
            form("some bytes", 0, Arrays.copyOf(w().exit().bytes(), n));
            form("some bytes behind", 1, Arrays.copyOf(w().exit().exit().bytes(), 8 + n));
            form("a second one is missing", 0, Arrays.copyOf(w().wide(0, 5).exit().bytes(), 8 + n));
            form("a wrong one before them", 0, Arrays.copyOf(w().put(255, 0, 0, 0, 0).exit().bytes(), 8 + n));
            form("a far jump before them", 1, Arrays.copyOf(w().go(7).exit().bytes(), 8 + n));
        }
        form("just the exit, without a number", -2, w().exit());
        form("two places", -1, w().out(0));
        Words w = w();
        for (int k = 0; k < 1022; k++) {
            w.move(0, k);
        }
        form("1,024 places", -1, w.out(0));
    }

    /** Every code, with all else 0: those that are instructions so. */
    private static void codes() {
        int[] good = {0x61, 0x69, 0x71, 0x79, 0x81, 0x89, 0x91, 0x62, 0x6a, 0x72, 0x7a, 0x63, 0x6b, 0x73, 0x7b, 0xc3, 0xdb,
            0x05, 0x15, 0x1d, 0x25, 0x2d, 0x35, 0x3d, 0x45, 0x4d, 0x55, 0x5d, 0x65, 0x6d, 0x75, 0x7d, 0xa5, 0xad, 0xb5, 0xbd,
            0xc5, 0xcd, 0xd5, 0xdd, 0x85, 0x95, 0x06, 0x16, 0x1e, 0x26, 0x2e, 0x36, 0x3e, 0x46, 0x4e, 0x56, 0x5e, 0x66, 0x6e,
            0x76, 0x7e, 0xa6, 0xae, 0xb6, 0xbe, 0xc6, 0xce, 0xd6, 0xde, 0x07, 0x0f, 0x17, 0x1f, 0x27, 0x2f, 0x37, 0x3f, 0x47,
            0x4f, 0x57, 0x5f, 0x67, 0x6f, 0x77, 0x7f, 0x87, 0x97, 0x9f, 0xa7, 0xaf, 0xb7, 0xbf, 0xc7, 0xcf, 0x04, 0x0c, 0x14,
            0x1c, 0x24, 0x2c, 0x34, 0x3c, 0x44, 0x4c, 0x54, 0x5c, 0x64, 0x6c, 0x74, 0x7c, 0x84, 0x94, 0x9c, 0xa4, 0xac, 0xb4,
            0xbc, 0xc4, 0xcc};
        for (int code = 0; code < 256; code++) {
            boolean is = false;
            for (int g : good) {
                is |= g == code;
            }
            form("code " + code, is ? -2 : 0, w().put(code, 0, 0, 0, 0).out(0));
        }
        for (int code : new int[] {0xd7, 0xd4, 0xdc}) {
            for (int i : new int[] {16, 32, 64}) {
                form("turns " + i, -2, w().put(code, 0, 0, 0, i).out(0));
            }
            for (int i : new int[] {0, 8, 24, 48, 65, -16}) {
                form("turns " + i, 0, w().put(code, 0, 0, 0, i).out(0));
            }
            form("turns with s", 0, w().put(code, 0, 1, 0, 16).out(0));
            form("turns with o", 0, w().put(code, 0, 0, 1, 16).out(0));
        }
        form("class 7, 13 with bit 3", 0, w().put(0xdf, 0, 0, 0, 16).out(0));
        form("two places", -2, w().put(0x18, 0, 0, 0, 0).put(0, 0, 0, 0, 0).out(0));
    }

    private static void registers() {
        int[] gets = {0x61, 0x81, 0x07, 0x0f, 0x04, 0x0c, 0xb7, 0xbf, 0x87};
        for (int code : gets) {
            form("10 gets " + code, 0, w().put(code, 10, 0, 0, 0).out(0));
            form("9 gets " + code, -2, w().put(code, 9, 0, 0, 0).out(0));
            form("11 gets " + code, 0, w().put(code, 11, 0, 0, 0).out(0));
        }
        form("10 gets two places", 0, w().put(0x18, 10, 0, 0, 0).put(0, 0, 0, 0, 0).out(0));
        form("10 is turned", 0, w().put(0xd7, 10, 0, 0, 16).out(0));
        int[] reads = {0x15, 0x1d, 0x16, 0x1e, 0x62, 0x63, 0xc3, 0xdb};
        for (int code : reads) {
            form("10 is read " + code, -2, w().put(code, 10, 0, 0, 0).out(0));
            form("11 is read " + code, 0, w().put(code, 11, 0, 0, 0).out(0));
            form("15 is read " + code, 0, w().put(code, 15, 0, 0, 0).out(0));
        }
        int[] second = {0x61, 0x81, 0x0f, 0x0c, 0xbf, 0xbc, 0x1d, 0x1e, 0x63, 0xc3, 0xdb};
        for (int code : second) {
            form("s 10 " + code, -2, w().put(code, 0, 10, 0, 0).out(0));
            form("s 11 " + code, 0, w().put(code, 0, 11, 0, 0).out(0));
            form("s with i " + code, code == 0xc3 || code == 0xdb ? -2 : 0, w().put(code, 0, 1, 0, 64).out(0));
        }
        int[] without = {0x07, 0x04, 0xb7, 0x15, 0x16, 0x62, 0x87, 0x84};
        for (int code : without) {
            form("no s " + code, 0, w().put(code, 0, 1, 0, 0).out(0));
        }
    }

    private static void offsets() {
        for (int group : new int[] {4, 7}) {
            for (int n = 0; n <= 12; n++) {
                for (int y = 0; y <= (n == 8 ? 0 : 8); y += 8) {
                    int code = n << 4 | group | y;
                    for (int o : new int[] {1, 2, 8, 16, 32, 64, -1, 256}) {
                        boolean divides = (n == 3 || n == 9) && o == 1;
                        boolean moves = n == 11 && y == 8 && (o == 8 || o == 16 || o == 32 && group == 7);
                        form("o " + o + " of " + code, divides || moves ? -2 : 0, w().put(code, 0, 0, o, 0).out(0));
                    }
                }
            }
        }
        form("i of a negation", 0, w().put(0x87, 0, 0, 0, 1).out(0));
        form("i of a negation", 0, w().put(0x84, 0, 0, 0, 1).out(0));
        for (int o : new int[] {1, -1, 32767, -32768}) {
            form("any offset of a load", -2, w().put(0x61, 0, 1, o, 0).out(0));
            form("any offset of a store", -2, w().put(0x63, 1, 1, o, 0).put(0x62, 1, 0, o, o).out(0));
            form("any offset of an atomic one", -2, w().put(0xdb, 1, 1, o, 0).out(0));
        }
        form("i of a load", 0, w().put(0x61, 0, 1, 0, 1).out(0));
        for (int i = -2; i < 300; i++) {
            boolean known = i == 0 || i == 1 || i == 64 || i == 65 || i == 80 || i == 81 || i == 160 || i == 161
                    || i == 225 || i == 241;
            form("atomic " + i, known ? -2 : 0, w().put(0xdb, 1, 1, 0, i).out(0));
            boolean gets = i == 1 || i == 65 || i == 81 || i == 161 || i == 225;
            form("atomic with 10, " + i, known && !gets ? -2 : 0, w().put(0xc3, 1, 10, 0, i).out(0));
        }
    }

    private static void alone() {
        int[][] bad = {{5, 1, 0, 0, 0}, {5, 0, 1, 0, 0}, {5, 0, 0, 0, 1}, {6, 1, 0, 0, 0}, {6, 0, 1, 0, 0}, {6, 0, 0, 1, 0},
            {133, 1, 0, 0, 5}, {133, 0, 1, 0, 5}, {133, 0, 0, 1, 5}, {149, 1, 0, 0, 0}, {149, 0, 1, 0, 0}, {149, 0, 0, 1, 0},
            {149, 0, 0, 0, 1}, {13, 0, 0, 0, 0}, {14, 0, 0, 0, 0}, {141, 0, 0, 0, 5}, {157, 0, 0, 0, 0}, {134, 0, 0, 0, 0},
            {150, 0, 0, 0, 0}, {0xe5, 0, 0, 0, 0}, {0xf5, 0, 0, 0, 0}, {0xe7, 0, 0, 0, 0}, {0xf7, 0, 0, 0, 0}, {0, 0, 0, 0, 0}};
        for (int[] b : bad) {
            form(Arrays.toString(b), 1, w().move(0, 0).put(b[0], b[1], b[2], b[3], b[4]).out(0));
        }
        form("a call of anything has the form", -2, w().call(-5).out(0));
    }

    private static void twoPlaces() {
        form("any numbers", -1, w().wide(3, 0x8123456789abcdefL).out(0));
        form("a map", -1, w().map(3, 0).out(0));
        form("s 2", 1, w().move(0, 0).put(24, 1, 2, 0, 0).put(0, 0, 0, 0, 0).out(0));
        form("o", 1, w().move(0, 0).put(24, 1, 0, 1, 0).put(0, 0, 0, 0, 0).out(0));
        form("a map below 0", 1, w().move(0, 0).put(24, 1, 1, 0, -1).put(0, 0, 0, 0, 0).out(0));
        form("a map that has more", 1, w().move(0, 0).put(24, 1, 1, 0, 0).put(0, 0, 0, 0, 1).out(0));
        form("a map that is not there", -2, w().map(3, 7).out(0));
        int[][] second = {{1, 0, 0, 0}, {0, 1, 0, 0}, {0, 0, 1, 0}, {0, 0, 0, 1}, {0, 0, 0, -1}, {149, 0, 0, 0}, {24, 0, 0, 0}};
        for (int[] b : second) {
            form("second " + Arrays.toString(b), 1, w().move(0, 0).put(24, 1, 0, 0, 0).put(b[0], b[1], b[2], b[3], 0).out(0));
        }
        form("the second is missing", 2, w().out(0).put(24, 0, 0, 0, 0));
        form("nothing behind it", 2, w().out(0).wide(0, 0));
        form("a second one alone", 0, w().put(0, 0, 0, 0, 0).out(0));
    }

    private static void goesOn() {
        form("back to the first", -2, w().jump(1, 1, 0, -1).out(0));
        form("ahead of the first", 0, w().jump(1, 1, 0, -2).out(0));
        form("to the last", -2, w().jump(1, 1, 0, 1).out(0));
        form("behind the last", 0, w().jump(1, 1, 0, 2).out(0));
        form("behind the last, class 6", 1, w().move(0, 0).jump32(1, 0, 0, 2).out(0));
        form("go behind the last", 1, w().move(0, 0).go(2).out(0));
        form("go to the last", -1, w().move(0, 0).go(1).out(0));
        form("go ahead of the first", 1, w().move(0, 0).go(-3).out(0));
        form("go far", -1, w().move(0, 0).goFar(1).out(0));
        form("go far behind", 1, w().move(0, 0).goFar(2).out(0));
        form("go far ahead", 1, w().move(0, 0).goFar(-3).out(0));
        form("go as far as it can be", 1, w().move(0, 0).goFar(Integer.MAX_VALUE).out(0));
        form("go as far back as it can be", 1, w().move(0, 0).goFar(Integer.MIN_VALUE).out(0));
        form("into two", 0, w().jump(1, 1, 0, 1).wide(0, 0).exit());
        form("into two from behind", 3, w().wide(0, 0).move(0, 0).jump(1, 0, 0, -3).out(0));
        form("go into two", 0, w().go(1).wide(0, 0).exit());
        form("onto two", -1, w().go(0).wide(0, 0).exit());
        form("over two", -1, w().wide(0, 0).go(2).wide(0, 0).exit());
        form("the last is no end", 1, w().exit().move(0, 0));
        form("the last is a jump that might not", 2, w().out(0).jump(1, 0, 0, -2));
        form("the last is a call", 2, w().out(0).call(5));
        form("the last goes back", -2, w().move(0, 0).go(-1));
        form("the last goes far back", -2, w().move(0, 0).goFar(-1));
        form("it goes to itself", -1, w().go(-1));
        form("an earlier one goes wrong first", 0, w().jump(1, 1, 0, 9).move(0, 0));
        form("places for themselves first", 2, w().jump(1, 1, 0, 9).move(0, 0).put(255, 0, 0, 0, 0));
    }

    private static void load() {
        ProgramBox x = new ProgramBox();
        due.is("6 none was checked", x.refused(), -1);
        for (int k = 0; k < 8; k++) {
            due.is("5 load", w().out(k).into(x), k);
            due.is("8 programs", x.programs(), k + 1);
        }
        Words.type(x, w().out(9).bytes());
        due.state("5 a ninth program", x, () -> x.load());
        due.is("5 the tape stays", Due.tapeLength(x), 16);
        x.end(0);
        due.state("5 a ninth that is none", x, () -> x.load());
        for (int k = 0; k < 8; k++) {
            x.run(k, 5);
            due.is("15 each is the one that was let in", x.result(), k);
        }
        ProgramBox y = new ProgramBox();
        w().exit().into(y);
        due.is("6 refused", y.refused(), 0);
        due.is("7 reason", y.reason(), 1);
        w().move(0, 1).put(255, 0, 0, 0, 0).into(y);
        due.is("6 refused", y.refused(), 1);
        due.is("7 reason", y.reason(), 9);
        due.is("5 load", w().out(3).into(y), 0);
        due.is("6 refused", y.refused(), -1);
        due.is("7 reason", y.reason(), 0);
        due.is("8 programs", y.programs(), 1);
    }

    public static void main(String[] args) {
        lengths();
        codes();
        registers();
        offsets();
        alone();
        twoPlaces();
        goesOn();
        load();
        due.end("forms of programs");
    }
}
