/** Holds answers against what is due, and counts those that are not. */
final class Due {
    /** A call that may throw. */
    interface Call {
        long answer();
    }

    private int wrong = 0;

    void is(String what, long got, long want) {
        if (got != want) {
            wrong++;
            System.out.println(what + " answered " + got + ", due is " + want);
        }
    }

    /** The call throws just this, and changes nothing of what the box shows. */
    void throwsJust(String what, ProgramBox box, Class<?> kind, Call call) {
        String before = shown(box);
        String thrown = "nothing";
        try {
            call.answer();
        } catch (RuntimeException e) {
            thrown = e.getClass().getName();
        }
        if (!thrown.equals(kind.getName())) {
            wrong++;
            System.out.println(what + " threw " + thrown + ", due is " + kind.getName());
        }
        if (!shown(box).equals(before)) {
            wrong++;
            System.out.println(what + " threw, and changed something");
        }
    }

    void index(String what, ProgramBox box, Call call) {
        throwsJust(what, box, IndexOutOfBoundsException.class, call);
    }

    void argument(String what, ProgramBox box, Call call) {
        throwsJust(what, box, IllegalArgumentException.class, call);
    }

    void state(String what, ProgramBox box, Call call) {
        throwsJust(what, box, IllegalStateException.class, call);
    }

    /** How many bytes the tape has: what feed() says, or, where it throws, the greatest number at which it can be cut. */
    static int tapeLength(ProgramBox box) {
        try {
            int n = box.feed(0, 0, 0, 0, 0) - 20;
            box.end(n);
            return n;
        } catch (IllegalStateException e) {
            return longTape(box);
        }
    }

    private static int longTape(ProgramBox box) {
        for (int n = 8192; n > 8172; n--) {
            try {
                box.end(n);
                return n;
            } catch (IllegalArgumentException e) {
                continue;
            }
        }
        return -1;
    }

    /** All that a box shows without changing. */
    static String shown(ProgramBox box) {
        StringBuilder b = new StringBuilder();
        b.append(tapeLength(box)).append(' ').append(box.programs()).append(' ').append(box.refused()).append(' ');
        b.append(box.reason()).append(' ').append(box.result()).append(' ').append(box.place()).append(' ');
        b.append(box.steps()).append(' ').append(box.breaches()).append(' ').append(box.size());
        for (int k = 0; k < box.size(); k++) {
            b.append(' ').append(box.at(k));
        }
        for (int k = 16; k < 64; k += 8) {
            b.append(' ').append(box.field(k));
        }
        for (int k = 0; k < 512; k += 8) {
            b.append(' ').append(box.desk(k));
        }
        for (int k = 0; k < 65536; k += 8) {
            b.append(' ').append(box.area(k));
        }
        for (int k = 0; k < 8; k++) {
            try {
                b.append(' ').append(box.used(k));
            } catch (IndexOutOfBoundsException e) {
                break;
            }
        }
        return b.toString();
    }

    void end(String name) {
        System.out.println(wrong == 0 ? name + " are as due" : wrong + " of " + name + " are not as due");
        if (wrong != 0) {
            System.exit(1);
        }
    }
}
