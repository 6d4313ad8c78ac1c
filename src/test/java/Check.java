import java.util.ArrayList;
import java.util.Arrays;
import java.util.List;

/** What the tests share: counting what holds and what does not, and looking at calls that throw or are undone. */
final class Check {
    interface Call {
        long run();
    }

    interface Test {
        void run();
    }

    private static final int MOST_SAVED = 4;

    private static int passed = 0;
    private static int failed = 0;
    private static boolean holds = true;

    private Check() {
    }

    static void test(String name, Test test) {
        holds = true;
        try {
            test.run();
        } catch (RuntimeException | Error e) {
            complain("threw " + e);
        }
        if (holds) {
            passed++;
        } else {
            failed++;
            System.out.println("FAILED: " + name);
        }
    }

    static void close() {
        System.out.println(passed + " passed, " + failed + " failed");
        if (failed > 0 || passed == 0) {
            System.exit(1);
        }
    }

    static void complain(String what) {
        holds = false;
        System.out.println("  " + what);
    }

    static void isTrue(String what, boolean condition) {
        if (!condition) {
            complain(what + " does not hold");
        }
    }

    static void equal(String what, long due, long got) {
        if (due != got) {
            complain(what + " answered " + got + ", due is " + due);
        }
    }

    static long[] row(long... values) {
        return values;
    }

    static void rows(String what, long[] due, long[] got) {
        if (!Arrays.equals(due, got)) {
            complain(what + " answered " + Arrays.toString(got) + ", due is " + Arrays.toString(due));
        }
    }

    private static void sameViews(String what, List<long[]> due, List<long[]> got) {
        equal(what + ": states", due.size(), got.size());
        for (int k = 0; k < Math.min(due.size(), got.size()); k++) {
            rows(what + ": view after " + k + " undos", due.get(k), got.get(k));
        }
    }

    /** The call throws just this exception and leaves all as it was: the state, the saved states, the text. */
    static void refused(String what, Engine x, Class<? extends RuntimeException> due, Call call) {
        List<long[]> views = views(x);
        long digest = x.see(o -> o.digest());
        long[] text = x.textAtWork();
        try {
            long got = call.run();
            complain(what + " answered " + got + ", due is " + due.getSimpleName());
        } catch (RuntimeException e) {
            if (e.getClass() != due) {
                complain(what + " threw " + e + ", due is " + due.getSimpleName());
            }
        }
        sameAsBefore(what, x, views, digest, text);
    }

    /** The call answers as due, and neither the state nor the saved states nor the text change. */
    static void changesNothing(String what, Engine x, long due, Call call) {
        List<long[]> views = views(x);
        long digest = x.see(o -> o.digest());
        long[] text = x.textAtWork();
        equal(what, due, call.run());
        sameAsBefore(what, x, views, digest, text);
    }

    private static void sameAsBefore(String what, Engine x, List<long[]> views, long digest, long[] text) {
        equal(what + ": digest after it", digest, x.see(o -> o.digest()));
        sameViews(what + ": what was before", views, views(x));
        rows(what + ": the text at work", text, x.textAtWork());
    }

    /** The call answers as due and saves the state from before it; undone and called again, it does the same. */
    static void undoable(String what, Engine x, long due, Call call) {
        List<long[]> before = views(x);
        equal(what, due, call.run());
        List<long[]> after = views(x);
        sameViews(what + ": undone", before.subList(0, Math.min(before.size(), MOST_SAVED)),
                after.subList(1, after.size()));
        sameViews(what + ": undone and called again", after, views(x.undoneAndDoneAgain()));
    }

    /** All that can be seen of an object, then the same after each undo, as many as there are saved states. */
    private static List<long[]> views(Engine x) {
        List<long[]> views = new ArrayList<>();
        int states = x.states();
        for (int undos = 0; undos <= states; undos++) {
            views.add(view(x, undos));
        }
        return views;
    }

    /** All that can be seen but the height of the undo stack. */
    static long[] view(Engine x) {
        return view(x, 0);
    }

    private static long[] view(Engine x, int undos) {
        List<Long> all = new ArrayList<>();
        for (int k = 0; k <= 14; k++) {
            int what = k;
            all.add(x.see(undos, o -> o.whole(what)));
        }
        all.add(x.see(undos, o -> o.held()));
        all.add(x.see(undos, o -> o.stuck()));
        long rings = all.get(0);
        long moves = all.get(1);
        for (int k = 0; k < 48; k++) {
            int cell = k;
            all.add(x.see(undos, o -> o.cell(cell)));
            all.add(x.see(undos, o -> o.finalValue(cell)));
            all.add(x.see(undos, o -> o.reason(cell)));
        }
        for (int k = 0; k < rings; k++) {
            int ring = k;
            for (int w = 0; w <= 7; w++) {
                int what = w;
                all.add(x.see(undos, o -> o.ring(ring, what)));
            }
        }
        for (int k = 0; k < moves; k++) {
            viewMove(all, x, undos, k);
        }
        return asRow(all);
    }

    private static void viewMove(List<Long> all, Engine x, int undos, int move) {
        for (int w = 0; w <= 9; w++) {
            int what = w;
            all.add(x.see(undos, o -> o.moveOf(move, what)));
        }
        long got = 0;
        for (int k = 0; k <= 16 && got != HostageRings.NONE; k++) {
            int index = k;
            got = x.see(undos, o -> o.hostage(move, index));
            all.add(got);
        }
        all.add(x.see(undos, o -> o.cellSet(move, false)));
        all.add(x.see(undos, o -> o.cellSet(move, true)));
        all.add(x.see(undos, o -> o.waitsFor(move)));
        all.add(x.see(undos, o -> o.depth(move)));
        all.add(x.see(undos, o -> o.copiedIn(move)));
    }

    private static long[] asRow(List<Long> all) {
        long[] row = new long[all.size()];
        for (int i = 0; i < row.length; i++) {
            row[i] = all.get(i);
        }
        return row;
    }

    /** The digest as the document builds it, from the other answers, for a height of the undo stack. */
    static long digestOf(Engine x, int states) {
        long h = 31 * 43476L + states;
        for (int k = 0; k <= 14; k++) {
            int what = k;
            h = 31 * h + x.see(o -> o.whole(what));
        }
        for (int k = 0; k <= 47; k++) {
            int cell = k;
            h = 31 * h + x.see(o -> o.cell(cell));
            h = 31 * h + x.see(o -> o.finalValue(cell));
        }
        long rings = x.see(o -> o.whole(0));
        for (int k = 0; k < rings; k++) {
            int ring = k;
            for (int w = 0; w <= 7; w++) {
                int what = w;
                h = 31 * h + x.see(o -> o.ring(ring, what));
            }
        }
        long moves = x.see(o -> o.whole(1));
        for (int move = 0; move < moves; move++) {
            h = digestOfMove(h, x, move);
        }
        return 31 * h + x.see(o -> o.held());
    }

    private static long digestOfMove(long start, Engine x, int move) {
        long h = start;
        for (int w = 0; w <= 9; w++) {
            int what = w;
            h = 31 * h + x.see(o -> o.moveOf(move, what));
        }
        for (int k = 0; k < 16; k++) {
            int index = k;
            long hostage = x.see(o -> o.hostage(move, index));
            if (hostage != HostageRings.NONE) {
                h = 31 * h + hostage;
            }
        }
        h = 31 * h + x.see(o -> o.waitsFor(move));
        return 31 * h + x.see(o -> o.depth(move));
    }

    static void type(Engine x, String text) {
        for (int i = 0; i < text.length(); i++) {
            x.type(text.charAt(i));
        }
    }

    /** The answer to a text that stands alone in the command text. */
    static int run(Engine x, String text) {
        x.clearCommands();
        type(x, text);
        return x.runCommands();
    }
}
