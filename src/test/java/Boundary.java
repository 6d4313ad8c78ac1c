/**
 * What the tests of boundary cases share. Each of them tells by its name the promise and the sentence that it holds,
 * gets a new object, and makes the call at the boundary and the one just beyond it.
 */
abstract class Boundary {
    static final Class<IndexOutOfBoundsException> NO_SUCH = IndexOutOfBoundsException.class;
    static final Class<IllegalArgumentException> RANGE = IllegalArgumentException.class;
    static final Class<IllegalStateException> NOT_NOW = IllegalStateException.class;
    static final int NONE = HostageRings.NONE;
    static final int LEAST = Integer.MIN_VALUE;
    static final int GREATEST = Integer.MAX_VALUE;
    static final int WAITING = 0;
    static final int COPYING = 1;
    static final int COPIED = 2;
    static final int SIGNED = 3;

    interface Body {
        void on(Engine x);
    }

    static void test(String name, Body body) {
        Check.test(name, () -> body.on(new Engine()));
    }

    /** The line of the test that called the helper which calls this. */
    private static String line() {
        StackTraceElement e = new Throwable().getStackTrace()[2];
        return e.getFileName() + " line " + e.getLineNumber();
    }

    /** A call that changes the object: the answer, the saved state, what undo brings back. */
    static void undoable(Engine x, long due, Check.Call call) {
        Check.undoable(line(), x, due, call);
    }

    /** A call that throws: the exception, and that all is left as it was. */
    static void refused(Engine x, Class<? extends RuntimeException> due, Check.Call call) {
        Check.refused(line(), x, due, call);
    }

    /** A question: the answer, and that all is left as it was. */
    static void answers(Engine x, long due, Check.Call call) {
        Check.changesNothing(line(), x, due, call);
    }

    static void equal(long due, long got) {
        Check.equal(line(), due, got);
    }

    static void rows(long[] due, long[] got) {
        Check.rows(line(), due, got);
    }

    static long[] row(long... values) {
        return values;
    }

    /** A ring on the cells 0 to 3 and one on 4 to 7, which sign by hand alone, with the values 1 to 8. */
    static void twoRings(Engine x) {
        for (int cell = 0; cell < 8; cell++) {
            x.write(cell, cell + 1);
        }
        x.addRing(0, 4, 0);
        x.addRing(4, 4, 0);
    }

    /** Four saved states, so that one more drops the oldest. */
    static void fullStack(Engine x) {
        for (int value = 1; value <= 4; value++) {
            x.write(40, value);
        }
    }

    /** Lets ticks pass up to a tick. */
    static void passTo(Engine x, int tick) {
        int left = tick - (int) x.see(o -> o.whole(8));
        for (; left > 50; left -= 50) {
            x.pass(50);
        }
        if (left > 0) {
            x.pass(left);
        }
    }

    static long[] cells(Engine x, int first, int count) {
        long[] row = new long[count];
        for (int k = 0; k < count; k++) {
            int cell = first + k;
            row[k] = x.see(o -> o.cell(cell));
        }
        return row;
    }

    static long[] finals(Engine x, int first, int count) {
        long[] row = new long[count];
        for (int k = 0; k < count; k++) {
            int cell = first + k;
            row[k] = x.see(o -> o.finalValue(cell));
        }
        return row;
    }

    static long[] reasons(Engine x, int first, int count) {
        long[] row = new long[count];
        for (int k = 0; k < count; k++) {
            int cell = first + k;
            row[k] = x.see(o -> o.reason(cell));
        }
        return row;
    }

    /** One value of each move. */
    static long[] ofMoves(Engine x, int what) {
        long[] row = new long[(int) x.see(o -> o.whole(1))];
        for (int k = 0; k < row.length; k++) {
            int move = k;
            row[k] = x.see(o -> o.moveOf(move, what));
        }
        return row;
    }

    static long[] states(Engine x) {
        return ofMoves(x, 5);
    }

    static long[] moveRow(Engine x, int move) {
        long[] row = new long[10];
        for (int k = 0; k < row.length; k++) {
            int what = k;
            row[k] = x.see(o -> o.moveOf(move, what));
        }
        return row;
    }

    static long[] ringRow(Engine x, int ring) {
        long[] row = new long[8];
        for (int k = 0; k < row.length; k++) {
            int what = k;
            row[k] = x.see(o -> o.ring(ring, what));
        }
        return row;
    }

    static long whole(Engine x, int what) {
        return x.see(o -> o.whole(what));
    }
}
