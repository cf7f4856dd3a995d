import java.util.ArrayList;
import java.util.Arrays;
import java.util.List;
import java.util.Random;

/**
 * Random programs: each is refused as Model says, and those that are let in run as Runner does, which looks at each
 * step whether all is as the check said, and have no breach.
 */
public final class RandomProgramsTest {
    private static int wrong = 0;
    private static int accepted = 0;
    private static final int[] reasons = new int[11];

    private static void fail(String text) {
        wrong++;
        if (wrong < 20) {
            System.out.println(text);
        }
    }

    /** Writes random programs of which many are let in: it keeps in mind, roughly, what registers have. */
    private static final class Writer {
        private static final int[] NUMBERS = {0, 1, 2, 3, 4, 7, 8, 12, 15, 16, 31, 32, 33, 63, 64, 100, 255, 256, 1000, -1, -2, -8,
            -64, 1 << 29, -(1 << 29), (1 << 29) - 8, Integer.MAX_VALUE, Integer.MIN_VALUE, 65535, 1 << 20};
        private static final int[] REFINING = {1, 2, 3, 4, 5, 6, 7, 10, 11, 12, 13};

        private final Random r;
        private final List<Model.Shape> maps;
        private final Words w = new Words();
        /** 'n' number, 'c' context, 's' stack, 'p' packet, 'e' end, 'i' item, ' ' nothing. */
        private final char[] sort = new char[11];
        private final int[] itemMap = new int[11];
        private final List<Integer> starts = new ArrayList<>();
        /** Places of jumps that still want a target. */
        private final List<Integer> open = new ArrayList<>();
        private final List<Long> raw = new ArrayList<>();
        private int known = 0;

        Writer(Random r, List<Model.Shape> maps) {
            this.r = r;
            this.maps = maps;
            Arrays.fill(sort, ' ');
            sort[1] = 'c';
            sort[10] = 's';
        }

        int number() {
            return r.nextInt(3) == 0 ? r.nextInt() >> r.nextInt(32) : NUMBERS[r.nextInt(NUMBERS.length)];
        }

        /** A register of a sort, or any. */
        int some(char c) {
            List<Integer> all = new ArrayList<>();
            for (int k = 0; k < 11; k++) {
                if (sort[k] == c) {
                    all.add(k);
                }
            }
            return all.isEmpty() || r.nextInt(100) == 0 ? r.nextInt(11) : all.get(r.nextInt(all.size()));
        }

        int free() {
            return r.nextInt(3) == 0 ? r.nextInt(10) : 6 + r.nextInt(4);
        }

        void mark() {
            starts.add(w.size());
        }

        void fragment() {
            mark();
            switch (r.nextInt(20)) {
                case 0: packetCheck(); break;
                case 1: case 2: seek(); break;
                case 3: case 4: load(); break;
                case 5: case 6: case 7: reckon(); break;
                case 8: case 9: jump(); break;
                case 10: move(); break;
                case 11: store(); break;
                case 12: spill(); break;
                case 13: call(); break;
                case 14: atomic(); break;
                case 15: index(); break;
                case 16: loop(); break;
                case 17: wide(); break;
                case 18: fill(); break;
                default: reload(); break;
            }
        }

        void reload() {
            int d = free();
            int o = -8 * (1 + r.nextInt(6));
            w.load(8, d, 10, o);
            sort[d] = 'n';
        }

        void fill() {
            for (int k = 1; k <= 6; k++) {
                w.storeNumber(8, 10, -8 * k, number());
                mark();
            }
        }

        void wide() {
            int d = free();
            w.wide(d, r.nextBoolean() ? r.nextLong() >> r.nextInt(64) : number());
            sort[d] = 'n';
        }

        void packetCheck() {
            int from = some('c'), n = r.nextInt(4) == 0 ? number() : r.nextInt(40);
            w.load(8, 6, from, 0);
            mark();
            w.load(8, 7, from, 8);
            mark();
            w.copy(8, 6);
            mark();
            w.add(8, n);
            mark();
            sort[6] = 'p';
            sort[7] = 'e';
            sort[8] = 'p';
            int kind = r.nextInt(6);
            open.add(w.size());
            if (kind == 0) {
                w.jumpBy(3, 8, 7, 0);
            } else if (kind == 1) {
                w.jumpBy(10, 7, 8, 0);
            } else if (kind == 2) {
                w.jumpBy(11, 8, 7, 0);
            } else {
                w.jumpBy(2, 8, 7, 0);
            }
            known = n;
        }

        void seek() {
            if (maps.isEmpty()) {
                return;
            }
            int k = r.nextInt(maps.size());
            Model.Shape map = maps.get(k);
            int words = Math.max(1, (map.key() + 7) / 8);
            for (int j = 1; j <= words; j++) {
                w.storeNumber(8, 10, -8 * j, r.nextInt(4));
                mark();
            }
            pointer(2, words);
            w.map(1, k);
            mark();
            w.call(1);
            mark();
            callLeaves();
            int keep = 6 + r.nextInt(4);
            if (r.nextBoolean()) {
                w.copy(keep, 0);
                mark();
                sort[keep] = 'i';
                itemMap[keep] = k;
            }
            sort[0] = 'i';
            itemMap[0] = k;
            int kind = r.nextInt(8);
            if (kind < 6) {
                open.add(w.size());
                w.jump(1, 0, 0, 0);
            } else if (kind == 6) {
                w.jump(5, 0, 0, 2);
                mark();
                w.out(r.nextInt(9));
            }
        }

        /** Register d gets an address: of so many slots of the stack, or of the packet or a value. */
        void pointer(int d, int slots) {
            char c = "sssspi".charAt(r.nextInt(6));
            int a = some(c);
            if (c == 's' || sort[a] != c) {
                w.copy(d, 10);
                mark();
                w.add(d, -8 * slots + (r.nextInt(8) == 0 ? r.nextInt(8) : 0));
            } else {
                w.copy(d, a);
                mark();
                w.add(d, r.nextInt(4));
            }
            mark();
        }

        void callLeaves() {
            for (int k = 1; k <= 5; k++) {
                sort[k] = ' ';
            }
            sort[0] = 'n';
        }

        int anySize() {
            return 1 << r.nextInt(4);
        }

        char address() {
            return "ppiiicss".charAt(r.nextInt(8));
        }

        void load() {
            char c = address();
            int s = some(c), d = free(), z = anySize();
            int o = offset(c, s, z, false);
            if (r.nextInt(4) == 0 && z < 8) {
                w.loadSigned(z, d, s, o);
            } else {
                w.load(z, d, s, o);
            }
            sort[d] = 'n';
        }

        int offset(char c, int register, int z, boolean writes) {
            if (r.nextInt(40) == 0) {
                return number();
            }
            switch (c) {
                case 'p': return r.nextInt(Math.max(1, Math.min(2000, known - z + 1)));
                case 'i':
                    int v = maps.isEmpty() ? 8 : maps.get(itemMap[register]).value();
                    return r.nextInt(Math.max(1, v - z + 1));
                case 'c':
                    int from = writes ? 32 : 16;
                    return (from + r.nextInt(64 - from)) / z * z;
                default: return -(1 + r.nextInt(48 / z)) * z;
            }
        }

        void reckon() {
            int d = some('n'), n = r.nextInt(14);
            if (d == 10) {
                return;
            }
            if (sort[d] != 'n' && r.nextInt(4) > 0) {
                w.move(d, number());
                mark();
                sort[d] = 'n';
            }
            boolean byRegister = r.nextBoolean();
            int group = r.nextInt(3) == 0 ? 4 : 7;
            int y = some('n');
            if (n == 13) {
                boolean turns = group == 4 && r.nextBoolean();
                w.put(13 << 4 | group | (turns ? 8 : 0), d, 0, 0, 16 << r.nextInt(3));
            } else if (n == 8) {
                w.put(8 << 4 | group, d, 0, 0, 0);
            } else if (n == 11 && byRegister && r.nextBoolean()) {
                w.put(11 << 4 | 8 | group, d, y, 8 << r.nextInt(group == 4 ? 2 : 3), 0);
            } else {
                int o = (n == 3 || n == 9) && r.nextInt(3) == 0 ? 1 : 0;
                if (n == 11 && group == 7 && byRegister) {
                    sort[d] = sort[y];
                }
                w.put(n << 4 | group | (byRegister ? 8 : 0), d, byRegister ? y : 0, o, byRegister ? 0 : number());
            }
        }

        void jump() {
            int n = REFINING[r.nextInt(REFINING.length)], d = some('n');
            int group = r.nextInt(3) == 0 ? 6 : 5;
            open.add(w.size());
            if (r.nextInt(12) == 0) {
                if (group == 5) {
                    w.go(0);
                } else {
                    w.goFar(0);
                }
            } else if (r.nextInt(3) == 0) {
                w.put(n << 4 | 8 | group, d, some('n'), 0, 0);
            } else {
                w.put(n << 4 | group, d, 0, 0, number());
            }
        }

        void move() {
            int d = free(), s = r.nextInt(11);
            if (r.nextBoolean() || sort[s] == ' ') {
                w.move(d, number());
                sort[d] = 'n';
            } else {
                w.copy(d, s);
                sort[d] = sort[s];
                itemMap[d] = itemMap[s];
            }
        }

        void store() {
            char c = address();
            int d = some(c), z = anySize(), o = offset(c, d, z, true);
            if (r.nextBoolean()) {
                w.storeNumber(z, d, o, number());
            } else {
                w.store(z, d, o, some('n'));
            }
        }

        void spill() {
            int s = r.nextInt(11), d = free();
            int o = -8 * (1 + r.nextInt(6));
            if (sort[s] == ' ') {
                return;
            }
            w.store(8, 10, o, s);
            mark();
            if (r.nextBoolean()) {
                w.load(8, d, 10, o);
                sort[d] = sort[s];
                itemMap[d] = itemMap[s];
            }
        }

        void call() {
            int i = 2 + r.nextInt(5);
            if (r.nextInt(30) == 0) {
                i = number();
            }
            if (i == 6) {
                if (sort[9] == 'c') {
                    w.copy(1, 9);
                    mark();
                }
                w.move(2, r.nextInt(30));
                mark();
            } else if (i != 5) {
                if (maps.isEmpty()) {
                    return;
                }
                int k = r.nextInt(maps.size());
                fill();
                pointer(2, 1 + r.nextInt(6));
                pointer(3, 1 + r.nextInt(6));
                w.move(4, r.nextInt(12) == 0 ? number() : r.nextInt(3));
                mark();
                if (i == 4) {
                    w.move(3, 1 + r.nextInt(16));
                    mark();
                }
                w.map(1, k);
                mark();
            }
            w.call(i);
            callLeaves();
        }

        void atomic() {
            int[] kinds = {0, 1, 64, 65, 80, 81, 160, 161, 225, 241};
            int d = some('i'), s = some('n'), z = r.nextBoolean() ? 4 : 8, i = kinds[r.nextInt(kinds.length)];
            if (s == 10) {
                return;
            }
            int v = maps.isEmpty() ? 8 : maps.get(itemMap[d]).value();
            w.atomic(z, d, r.nextInt(Math.max(1, v / z)) * z, s, i);
        }

        /** A number within bounds is added to an address. */
        void index() {
            char c = r.nextBoolean() ? 'p' : 'i';
            int a = some(c), n = some('n'), d = 2 + r.nextInt(4);
            if (n == 10 || d == n) {
                return;
            }
            if (r.nextBoolean()) {
                w.set(5, n, r.nextInt(24));
            } else {
                open.add(w.size());
                w.jump(2, n, r.nextInt(24), 0);
            }
            mark();
            w.copy(d, a);
            mark();
            w.by(r.nextInt(8) == 0 ? 1 : 0, d, n);
            mark();
            sort[d] = sort[a];
            itemMap[d] = itemMap[a];
            if (r.nextBoolean()) {
                w.load(anySize(), free(), d, r.nextInt(4));
            } else if (r.nextBoolean()) {
                w.store(anySize(), d, r.nextInt(4), n);
            } else {
                w.atomic(8, d, 0, n, 0);
            }
        }

        void loop() {
            int k = 6 + r.nextInt(4);
            w.move(k, r.nextInt(3));
            sort[k] = 'n';
            int from = w.size();
            for (int j = r.nextInt(3); j > 0; j--) {
                mark();
                if (r.nextBoolean()) {
                    reckon();
                } else {
                    move();
                }
            }
            mark();
            w.add(k, 1 + r.nextInt(2));
            mark();
            int[] kinds = {10, 12, 5, 11, 13};
            w.jump(kinds[r.nextInt(kinds.length)], k, r.nextInt(20), from - w.size() - 1);
        }

        byte[] program() {
            if (r.nextInt(3) > 0) {
                mark();
                w.copy(9, 1);
                sort[9] = 'c';
            }
            for (int k = r.nextInt(9); k >= 0; k--) {
                if (k != 1 && k != 9) {
                    mark();
                    w.move(k, number());
                    sort[k] = 'n';
                }
            }
            if (r.nextBoolean()) {
                mark();
                fill();
            }
            for (int k = 1 + r.nextInt(12); k > 0; k--) {
                fragment();
            }
            mark();
            if (r.nextInt(20) > 0) {
                w.move(0, number());
                mark();
            }
            w.exit();
            byte[] row = w.bytes();
            for (int p : open) {
                int to = starts.get(r.nextInt(starts.size()));
                if (r.nextInt(5) > 0) {
                    for (int j = 0; j < 4 && to <= p; j++) {
                        to = starts.get(r.nextInt(starts.size()));
                    }
                }
                if (r.nextInt(3) > 0) {
                    to = starts.get(Math.max(0, starts.size() - (r.nextInt(12) == 0 ? 1 : 2)));
                }
                int at = row[8 * p] == 6 ? 4 : 2;
                row[8 * p + at] = (byte) (to - p - 1);
                row[8 * p + at + 1] = (byte) (to - p - 1 >> 8);
                row[8 * p + 6] = at == 4 ? (byte) (to - p - 1 >> 16) : row[8 * p + 6];
                row[8 * p + 7] = at == 4 ? (byte) (to - p - 1 >> 24) : row[8 * p + 7];
            }
            if (r.nextInt(12) == 0) {
                row[r.nextInt(row.length)] ^= (byte) (1 << r.nextInt(8));
            }
            if (r.nextInt(60) == 0) {
                row = Arrays.copyOf(row, Math.max(0, row.length - 1 - r.nextInt(12)));
            }
            return row;
        }
    }

    private static List<Model.Shape> shapes(Random r) {
        List<Model.Shape> shapes = new ArrayList<>();
        for (int k = r.nextInt(5); k > 0; k--) {
            int kind = r.nextInt(5);
            if (kind == 4) {
                shapes.add(new Model.Shape(2, 0, 0, 64 << r.nextInt(3)));
            } else if (kind == 3) {
                shapes.add(new Model.Shape(0, 4, 1 + r.nextInt(40), 1 + r.nextInt(5)));
            } else {
                shapes.add(new Model.Shape(1, 1 + r.nextInt(12), 1 + r.nextInt(40), 1 + r.nextInt(4)));
            }
        }
        return shapes;
    }

    private static String text(byte[] row) {
        StringBuilder b = new StringBuilder();
        for (int p = 0; p < row.length; p += 8) {
            b.append("\n  ").append(p / 8).append(":");
            for (int k = p; k < p + 8 && k < row.length; k++) {
                b.append(String.format(" %02x", row[k] & 255));
            }
        }
        return b.toString();
    }

    private static void round(long seed) {
        Random r = new Random(seed);
        List<Model.Shape> shapes = shapes(r);
        ProgramBox box = new ProgramBox();
        Runner runner = new Runner();
        for (Model.Shape s : shapes) {
            box.make(s.kind(), s.key(), s.value(), s.entries());
            runner.add(s);
        }
        List<Model> models = new ArrayList<>();
        List<byte[]> texts = new ArrayList<>();
        for (int k = 0; k < 4; k++) {
            byte[] row = new Writer(r, shapes).program();
            Model model = new Model(shapes);
            int[] due = model.verdict(row);
            Words.type(box, row);
            int got = box.load();
            reasons[due[1]]++;
            if (box.refused() != due[0] || box.reason() != due[1] || got != (due[1] == 0 ? models.size() : -1)) {
                fail("seed " + seed + ": " + got + ", refused " + box.refused() + " for " + box.reason() + ", due is "
                        + due[0] + " for " + due[1] + text(row));
                return;
            }
            if (due[1] == 0) {
                models.add(model);
                texts.add(row);
                accepted++;
            }
        }
        for (int k = 0; k < 6 && !models.isEmpty(); k++) {
            int which = r.nextInt(models.size());
            if (k == 0 || r.nextBoolean()) {
                byte[] packet = new byte[r.nextInt(60)];
                for (int j = 0; j < packet.length; j++) {
                    packet[j] = (byte) (r.nextBoolean() ? r.nextInt(20) : r.nextInt());
                }
                Words.type(box, packet);
                box.packet();
                runner.packet = packet;
                int from = 16 + 8 * r.nextInt(6);
                long v = r.nextLong() >> r.nextInt(64);
                box.context(from, v);
                for (int j = 0; j < 8; j++) {
                    runner.context[from + j] = (byte) (v >> 8 * j);
                }
            }
            int fuel = r.nextInt(4) == 0 ? r.nextInt(30) : 300;
            try {
                runs(box, runner, models.get(which), which, fuel, "seed " + seed + " program " + which + " run " + k);
            } catch (Runner.Failure e) {
                fail("seed " + seed + " run " + k + ": " + e.getMessage() + text(texts.get(which)));
                return;
            }
        }
    }

    private static void due(String what, long got, long want) {
        if (got != want) {
            fail(what + ": got " + got + ", due is " + want);
        }
    }

    private static void runs(ProgramBox box, Runner runner, Model model, int which, int fuel, String name) {
        boolean exits = runner.run(model.program, model, fuel);
        due(name + " run", box.run(which, fuel), exits ? ProgramBox.EXIT : ProgramBox.FUEL);
        due(name + " result", box.result(), runner.result);
        due(name + " place", box.place(), runner.place);
        due(name + " steps", box.steps(), runner.steps);
        due(name + " size", box.size(), runner.packet.length);
        due(name + " breaches", box.breaches(), 0);
        for (int k = 0; k < runner.packet.length && k < box.size(); k++) {
            due(name + " at " + k, box.at(k), runner.packet[k] & 255);
        }
        for (int k = 16; k < 64; k += 8) {
            due(name + " field " + k, box.field(k), eight(runner.context, k));
        }
        int end = 0;
        for (int k = 0; k < runner.maps.size(); k++) {
            due(name + " used " + k, box.used(k), runner.maps.get(k).used());
            Runner.Map map = runner.maps.get(k);
            end = map.start + (map.shape.kind() == 2 ? map.shape.entries() : map.stride() * map.shape.entries());
            for (int e = 0; e < map.keys.size() && map.shape.kind() == 1; e++) {
                if (map.keys.get(e) != null) {
                    byte[] key = Arrays.copyOf(map.keys.get(e), 32);
                    for (int j = 0; j < 32; j += 8) {
                        box.lay(j, eight(key, j));
                    }
                    due(name + " find " + k, box.find(k, 0), map.start + e * map.stride());
                }
            }
        }
        for (int k = 0; k < end; k += 8) {
            due(name + " area " + k, box.area(k), eight(runner.area, k));
        }
    }

    private static long eight(byte[] row, int at) {
        long v = 0;
        for (int k = 7; k >= 0; k--) {
            v = v << 8 | row[at + k] & 255;
        }
        return v;
    }

    public static void main(String[] args) {
        int rounds = args.length > 0 ? Integer.parseInt(args[0]) : 3000;
        long first = args.length > 1 ? Long.parseLong(args[1]) : 0;
        for (int k = 0; k < rounds; k++) {
            round(first + k);
        }
        System.out.println(accepted + " programs were let in; by reasons " + Arrays.toString(reasons));
        if (accepted < rounds / 10) {
            fail("too few programs were let in for a test");
        }
        System.out.println(wrong == 0 ? "random programs are as due" : wrong + " are not as due");
        if (wrong != 0) {
            System.exit(1);
        }
    }
}
