import java.util.ArrayList;
import java.util.Arrays;
import java.util.List;

/** What the tests share: counting what holds and what does not, and looking at calls that throw or are undone. */
final class Check {
    interface Call {
        long run();
    }

    interface Test {
        void run();
    }

    private static int passed = 0;
    private static int failed = 0;
    private static boolean holds = true;

    private Check() {
    }

    static void test(String name, Test test) {
        holds = true;
        try {
            test.run();
        } catch (RuntimeException | Error e) {
            complain("threw " + e);
        }
        if (holds) {
            passed++;
        } else {
            failed++;
            System.out.println("FAILED: " + name);
        }
    }

    static void close() {
        System.out.println(passed + " passed, " + failed + " failed");
        if (failed > 0 || passed == 0) {
            System.exit(1);
        }
    }

    static void complain(String what) {
        holds = false;
        System.out.println("  " + what);
    }

    static void isTrue(String what, boolean condition) {
        if (!condition) {
            complain(what + " does not hold");
        }
    }

    static void equal(String what, long due, long got) {
        if (due != got) {
            complain(what + " answered " + got + ", due is " + due);
        }
    }

    static long[] row(long... values) {
        return values;
    }

    static void rows(String what, long[] due, long[] got) {
        if (!Arrays.equals(due, got)) {
            complain(what + " answered " + Arrays.toString(got) + ", due is " + Arrays.toString(due));
        }
    }

    /** The call throws just this exception and leaves the object as it was. */
    static void refused(String what, HostageRings x, Class<? extends RuntimeException> due, Call call) {
        long before = x.digest();
        try {
            long got = call.run();
            complain(what + " answered " + got + ", due is " + due.getSimpleName());
        } catch (RuntimeException e) {
            if (e.getClass() != due) {
                complain(what + " threw " + e + ", due is " + due.getSimpleName());
            }
        }
        equal(what + ": digest after the exception", before, x.digest());
    }

    /** The call answers as due, saves one state, and undo brings back what was before it; then it is done anew. */
    static void undoable(String what, HostageRings x, long due, Call call) {
        long[] before = view(x);
        int states = states(x);
        equal(what, due, call.run());
        long[] after = view(x);
        equal(what + ": states left by undo", Math.min(states + 1, 4) - 1, x.undo());
        rows(what + ": view after undo", before, view(x));
        equal(what + " called again", due, call.run());
        rows(what + ": view when called again", after, view(x));
    }

    /** Neither the state nor the undo stack changes. */
    static void changesNothing(String what, HostageRings x, long due, Call call) {
        long before = x.digest();
        equal(what, due, call.run());
        equal(what + ": digest after it", before, x.digest());
    }

    /** All that can be seen but the height of the undo stack. */
    static long[] view(HostageRings x) {
        List<Long> all = new ArrayList<>();
        for (int what = 0; what <= 14; what++) {
            all.add((long) x.whole(what));
        }
        for (int cell = 0; cell < 48; cell++) {
            all.add((long) x.cell(cell));
            all.add((long) x.finalValue(cell));
            all.add((long) x.reason(cell));
        }
        for (int ring = 0; ring < x.whole(0); ring++) {
            for (int what = 0; what <= 7; what++) {
                all.add((long) x.ring(ring, what));
            }
        }
        for (int move = 0; move < x.whole(1); move++) {
            for (int what = 0; what <= 9; what++) {
                all.add((long) x.moveOf(move, what));
            }
            for (int index = 0; index < 16; index++) {
                all.add((long) x.hostage(move, index));
            }
            all.add(x.cellSet(move, false));
            all.add(x.cellSet(move, true));
            all.add((long) x.waitsFor(move));
            all.add((long) x.depth(move));
            all.add((long) x.copiedIn(move));
        }
        all.add(x.held());
        all.add((long) x.stuck());
        long[] row = new long[all.size()];
        for (int i = 0; i < row.length; i++) {
            row[i] = all.get(i);
        }
        return row;
    }

    /** The digest as the document builds it, from the other answers, for a height of the undo stack. */
    static long digestOf(HostageRings x, int states) {
        long h = 31 * 43476L + states;
        for (int what = 0; what <= 14; what++) {
            h = 31 * h + x.whole(what);
        }
        for (int cell = 0; cell <= 47; cell++) {
            h = 31 * (31 * h + x.cell(cell)) + x.finalValue(cell);
        }
        for (int ring = 0; ring < x.whole(0); ring++) {
            for (int what = 0; what <= 7; what++) {
                h = 31 * h + x.ring(ring, what);
            }
        }
        for (int move = 0; move < x.whole(1); move++) {
            for (int what = 0; what <= 9; what++) {
                h = 31 * h + x.moveOf(move, what);
            }
            for (int index = 0; x.hostage(move, index) != HostageRings.NONE; index++) {
                h = 31 * h + x.hostage(move, index);
            }
            h = 31 * (31 * h + x.waitsFor(move)) + x.depth(move);
        }
        return 31 * h + x.held();
    }

    /** The height of the undo stack, which the digest alone tells. */
    static int states(HostageRings x) {
        long digest = x.digest();
        for (int states = 0; states <= 4; states++) {
            if (digestOf(x, states) == digest) {
                return states;
            }
        }
        complain("the digest fits no height of the undo stack");
        return -1;
    }

    static void type(HostageRings x, String text) {
        for (int i = 0; i < text.length(); i++) {
            x.type(text.charAt(i));
        }
    }

    /** The answer to a text that stands alone in the command text. */
    static int run(HostageRings x, String text) {
        x.clearCommands();
        type(x, text);
        return x.runCommands();
    }
}
