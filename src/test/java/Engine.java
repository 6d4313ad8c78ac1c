import java.util.ArrayList;
import java.util.List;

/**
 * An object under test, with the row of the calls on it. A full look at an object takes more calls than the 512 that
 * it promises to answer; so the questions are put to twins, which had the same calls, and no object gets too many.
 */
final class Engine {
    static final int MOST_CALLS = 512;

    /** One call on an object. */
    interface Step {
        long on(HostageRings x);
    }

    private final HostageRings x = new HostageRings();
    private final List<Step> steps = new ArrayList<>();
    private HostageRings twin;
    private int twinCalls;
    private int twinUndos;

    private long step(Step s) {
        steps.add(s);
        twin = null;
        if (steps.size() > MOST_CALLS) {
            throw new AssertionError("more than " + MOST_CALLS + " calls on one object");
        }
        return s.on(x);
    }

    private HostageRings replay() {
        HostageRings other = new HostageRings();
        for (Step s : steps) {
            try {
                s.on(other);
            } catch (RuntimeException e) {
                // It was refused on the object under test, too.
            }
        }
        return other;
    }

    /** The answer of a twin that had so many undos behind the calls on this object, which has no call by that. */
    long see(int undos, Step question) {
        if (twin == null || twinUndos != undos || twinCalls >= MOST_CALLS) {
            twin = replay();
            twinUndos = undos;
            twinCalls = steps.size() + undos;
            for (int k = 0; k < undos; k++) {
                twin.undo();
            }
        }
        twinCalls++;
        if (twinCalls > MOST_CALLS) {
            throw new AssertionError("no call is left for a question");
        }
        return question.on(twin);
    }

    long see(Step question) {
        return see(0, question);
    }

    /** The height of the undo stack, as undo alone tells it. */
    int states() {
        HostageRings other = replay();
        for (int states = 0; steps.size() + states < MOST_CALLS; states++) {
            try {
                other.undo();
            } catch (IllegalStateException e) {
                return states;
            }
        }
        throw new AssertionError("no call is left to find the height of the undo stack");
    }

    /** What the command text does now, which tells what stands in it: the answer to a run, and the digest then. */
    long[] textAtWork() {
        HostageRings other = replay();
        return new long[] {other.runCommands(), other.digest()};
    }

    /** Another object that had the same calls, then an undo, then the last call once more. */
    Engine undoneAndDoneAgain() {
        Engine other = new Engine();
        for (Step s : steps) {
            try {
                other.step(s);
            } catch (RuntimeException e) {
                // It was refused on the object under test, too.
            }
        }
        other.undo();
        other.step(steps.get(steps.size() - 1));
        return other;
    }

    int addRing(int first, int length, int patience) {
        return (int) step(o -> o.addRing(first, length, patience));
    }

    int setPatience(int ring, int patience) {
        return (int) step(o -> o.setPatience(ring, patience));
    }

    int set(int what, int value) {
        return (int) step(o -> o.set(what, value));
    }

    int write(int cell, int value) {
        return (int) step(o -> o.write(cell, value));
    }

    int move(int from, int fromPlace, int to, int toPlace, int count) {
        return (int) step(o -> o.move(from, fromPlace, to, toPlace, count));
    }

    int sign(int ring) {
        return (int) step(o -> o.sign(ring));
    }

    int strike(int ring, boolean strikes) {
        return (int) step(o -> o.strike(ring, strikes));
    }

    int pass(int ticks) {
        return (int) step(o -> o.pass(ticks));
    }

    int sweep() {
        return (int) step(o -> o.sweep());
    }

    int cell(int cell) {
        return (int) step(o -> o.cell(cell));
    }

    int ring(int ring, int what) {
        return (int) step(o -> o.ring(ring, what));
    }

    int moveOf(int move, int what) {
        return (int) step(o -> o.moveOf(move, what));
    }

    int hostage(int move, int index) {
        return (int) step(o -> o.hostage(move, index));
    }

    long cellSet(int move, boolean target) {
        return step(o -> o.cellSet(move, target));
    }

    long held() {
        return step(o -> o.held());
    }

    int whole(int what) {
        return (int) step(o -> o.whole(what));
    }

    int reason(int cell) {
        return (int) step(o -> o.reason(cell));
    }

    int waitsFor(int move) {
        return (int) step(o -> o.waitsFor(move));
    }

    int depth(int move) {
        return (int) step(o -> o.depth(move));
    }

    int finalValue(int cell) {
        return (int) step(o -> o.finalValue(cell));
    }

    int copiedIn(int move) {
        return (int) step(o -> o.copiedIn(move));
    }

    int stuck() {
        return (int) step(o -> o.stuck());
    }

    int type(int value) {
        return (int) step(o -> o.type(value));
    }

    int clearCommands() {
        return (int) step(o -> o.clearCommands());
    }

    int runCommands() {
        return (int) step(o -> o.runCommands());
    }

    int undo() {
        return (int) step(o -> o.undo());
    }

    long digest() {
        return step(o -> o.digest());
    }
}
