/** At least one test for each promise: ordinary inputs, the edges that the document names, and wrong inputs. */
final class PromiseTests {
    private static final Class<IndexOutOfBoundsException> NO_SUCH = IndexOutOfBoundsException.class;
    private static final Class<IllegalArgumentException> RANGE = IllegalArgumentException.class;
    private static final Class<IllegalStateException> NOT_NOW = IllegalStateException.class;
    private static final int NONE = HostageRings.NONE;
    private static final int LEAST = Integer.MIN_VALUE;
    private static final int GREATEST = Integer.MAX_VALUE;

    private PromiseTests() {
    }

    static void all() {
        Check.test("promise 1: a new object", PromiseTests::newObject);
        Check.test("promise 2: addRing", PromiseTests::addRing);
        Check.test("promise 2: a full table of rings", PromiseTests::addRingToFullTable);
        Check.test("promise 3: setPatience", PromiseTests::setPatience);
        Check.test("promise 4: set", PromiseTests::set);
        Check.test("promise 4: speed and lanes at work", PromiseTests::settingsAtWork);
        Check.test("promise 5: write", PromiseTests::write);
        Check.test("promise 6: move", PromiseTests::move);
        Check.test("promise 6: a full table of moves", PromiseTests::moveToFullTable);
        Check.test("promise 7: sign", PromiseTests::sign);
        Check.test("promise 8: strike", PromiseTests::strike);
        Check.test("promise 9: pass", PromiseTests::pass);
        Check.test("promise 9: patience", PromiseTests::patience);
        Check.test("promise 9: the order of a tick", PromiseTests::orderOfTick);
        Check.test("promise 9: the last tick", PromiseTests::lastTick);
        Check.test("promise 10: sweep", PromiseTests::sweep);
        Check.test("promise 10: sweep while others copy", PromiseTests::sweepWithHostages);
        Check.test("promise 10: sweep of a full table", PromiseTests::fullTableAtWork);
        Check.test("promise 11: cell", PromiseTests::cell);
        Check.test("promise 12: ring", PromiseTests::ring);
        Check.test("promise 13: moveOf", PromiseTests::moveOf);
        Check.test("promise 14: hostage", PromiseTests::hostage);
        Check.test("promise 15: cellSet", PromiseTests::cellSet);
        Check.test("promise 16: held", PromiseTests::held);
        Check.test("promise 17: whole", PromiseTests::whole);
        Check.test("promise 18: reason", PromiseTests::reason);
        Check.test("promise 19: waitsFor", PromiseTests::waitsFor);
        Check.test("promise 20: depth", PromiseTests::depth);
        Check.test("promise 21: finalValue", PromiseTests::finalValue);
        Check.test("promise 22: copiedIn", PromiseTests::copiedIn);
        Check.test("promise 22: copiedIn at its bound", PromiseTests::copiedInAtBound);
        Check.test("promise 23: stuck", PromiseTests::stuck);
        Check.test("promise 23: stuck at its bound", PromiseTests::stuckAtBound);
        Check.test("promise 24: type", PromiseTests::type);
        Check.test("promise 25: clearCommands", PromiseTests::clearCommands);
        Check.test("promise 26: runCommands", PromiseTests::runCommands);
        Check.test("promise 26: the most commands", PromiseTests::mostCommands);
        Check.test("promise 26: commands that would throw", PromiseTests::commandsThatWouldThrow);
        Check.test("promise 26: faults", PromiseTests::faults);
        Check.test("promise 26: texts after other texts", PromiseTests::textsAfterOthers);
        Check.test("promise 27: undo", PromiseTests::undo);
        Check.test("promise 28: digest", PromiseTests::digest);
    }

    /** Two rings of four cells with the values 1 to 8: ring 0 on the cells 0 to 3, ring 1 on 4 to 7. */
    private static Engine twoRings(int patience) {
        Engine x = new Engine();
        for (int cell = 0; cell < 8; cell++) {
            x.write(cell, cell + 1);
        }
        x.addRing(0, 4, patience);
        x.addRing(4, 4, patience);
        return x;
    }

    private static long[] cells(Engine x, int first, int count) {
        long[] row = new long[count];
        for (int k = 0; k < count; k++) {
            row[k] = x.cell(first + k);
        }
        return row;
    }

    private static long[] finals(Engine x, int first, int count) {
        long[] row = new long[count];
        for (int k = 0; k < count; k++) {
            row[k] = x.finalValue(first + k);
        }
        return row;
    }

    private static long[] wholes(Engine x) {
        long[] row = new long[15];
        for (int what = 0; what < 15; what++) {
            row[what] = x.whole(what);
        }
        return row;
    }

    private static long[] ringRow(Engine x, int ring) {
        long[] row = new long[8];
        for (int what = 0; what < 8; what++) {
            row[what] = x.ring(ring, what);
        }
        return row;
    }

    private static long[] moveRow(Engine x, int move) {
        long[] row = new long[10];
        for (int what = 0; what < 10; what++) {
            row[what] = x.moveOf(move, what);
        }
        return row;
    }

    private static void newObject() {
        Engine x = new Engine();
        Check.rows("whole", Check.row(0, 0, 0, 0, 0, 0, 2, 2, 0, 0, 0, 0, 0, 0, 0), wholes(x));
        Check.rows("cells", new long[48], cells(x, 0, 48));
        Check.equal("stuck", 0, x.stuck());
        Check.equal("held", 0, x.held());
        Check.equal("NONE", -1000, NONE);
        Check.equal("digest", Check.digestOf(x, 0), x.digest());
        Check.refused("undo", x, NOT_NOW, x::undo);
        Check.equal("runCommands", 0, x.runCommands());
    }

    private static void addRing() {
        Engine x = new Engine();
        Check.undoable("the first cells", x, 0, () -> x.addRing(0, 2, 0));
        Check.undoable("the last cells", x, 1, () -> x.addRing(32, 16, 50));
        Check.rows("ring 0", Check.row(0, 2, 0, 0, 0, 0, 0, 0), ringRow(x, 0));
        Check.rows("ring 1", Check.row(32, 16, 50, 0, 0, 0, 0, 0), ringRow(x, 1));
        for (int first : new int[] {-1, 48, LEAST, GREATEST}) {
            Check.refused("first " + first, x, NO_SUCH, () -> x.addRing(first, 2, 0));
            Check.refused("first and length", x, NO_SUCH, () -> x.addRing(first, 1, 51));
        }
        for (int length : new int[] {1, 17, 0, -2, LEAST, GREATEST}) {
            Check.refused("length " + length, x, RANGE, () -> x.addRing(10, length, 0));
            Check.refused("length, and a cell is taken", x, RANGE, () -> x.addRing(0, length, 0));
        }
        for (int patience : new int[] {-1, 51, LEAST, GREATEST}) {
            Check.refused("patience " + patience, x, RANGE, () -> x.addRing(10, 2, patience));
        }
        Check.refused("beyond the memory", x, RANGE, () -> x.addRing(47, 2, 0));
        Check.refused("beyond the memory by one", x, RANGE, () -> x.addRing(33, 16, 0));
        Check.refused("a cell before is taken", x, NOT_NOW, () -> x.addRing(1, 2, 0));
        Check.refused("a cell behind is taken", x, NOT_NOW, () -> x.addRing(31, 2, 0));
        Check.refused("all cells are taken", x, NOT_NOW, () -> x.addRing(34, 3, 0));
        Check.undoable("close behind", x, 2, () -> x.addRing(2, 3, 1));
        Check.refused("round another ring", x, NOT_NOW, () -> x.addRing(1, 5, 0));
        Check.undoable("close before", x, 3, () -> x.addRing(30, 2, 7));
    }

    private static void addRingToFullTable() {
        Engine x = new Engine();
        for (int ring = 0; ring < 6; ring++) {
            Check.equal("number", ring, x.addRing(2 * ring, 2, ring));
        }
        Check.equal("rings", 6, x.whole(0));
        Check.refused("a seventh ring", x, NOT_NOW, () -> x.addRing(20, 2, 0));
        Check.refused("a seventh ring, and length", x, RANGE, () -> x.addRing(20, 1, 0));
        Check.equal("undo", 3, x.undo());
        Check.equal("a ring again", 5, x.addRing(20, 2, 0));
        Check.equal("its first cell", 20, x.ring(5, 0));
    }

    private static void setPatience() {
        Engine x = twoRings(3);
        Check.undoable("the greatest", x, 3, () -> x.setPatience(0, 50));
        Check.equal("patience of ring 0", 50, x.ring(0, 2));
        Check.equal("patience of ring 1", 3, x.ring(1, 2));
        Check.equal("the least", 3, x.setPatience(1, 0));
        Check.equal("and back", 0, x.setPatience(1, 1));
        Check.equal("and back again", 1, x.setPatience(1, 1));
        for (int ring : new int[] {-1, 2, 6, LEAST, GREATEST}) {
            Check.refused("ring " + ring, x, NO_SUCH, () -> x.setPatience(ring, 1));
            Check.refused("ring and patience", x, NO_SUCH, () -> x.setPatience(ring, -1));
        }
        for (int patience : new int[] {-1, 51, LEAST, GREATEST}) {
            Check.refused("patience " + patience, x, RANGE, () -> x.setPatience(0, patience));
        }
    }

    private static void set() {
        Engine x = new Engine();
        Check.undoable("speed", x, 2, () -> x.set(0, 8));
        Check.undoable("lanes", x, 2, () -> x.set(1, 4));
        Check.equal("speed as it is", 8, x.whole(6));
        Check.equal("lanes as they are", 4, x.whole(7));
        Check.equal("least speed", 8, x.set(0, 1));
        Check.equal("least lanes", 4, x.set(1, 1));
        Check.undoable("the same again", x, 1, () -> x.set(1, 1));
        for (int what : new int[] {-1, 2, LEAST, GREATEST}) {
            Check.refused("what " + what, x, RANGE, () -> x.set(what, 1));
        }
        for (int value : new int[] {0, 9, -1, LEAST, GREATEST}) {
            Check.refused("speed " + value, x, RANGE, () -> x.set(0, value));
        }
        for (int value : new int[] {0, 5, 8, -1, LEAST, GREATEST}) {
            Check.refused("lanes " + value, x, RANGE, () -> x.set(1, value));
        }
    }

    private static void settingsAtWork() {
        Engine x = new Engine();
        for (int ring = 0; ring < 6; ring++) {
            x.addRing(8 * ring, 8, 0);
        }
        for (int move = 0; move < 5; move++) {
            x.move(move, 0, 5, move, 1);
        }
        for (int move = 0; move < 3; move++) {
            x.move(move, 4, move, 1, 3);
        }
        x.set(0, 1);
        Check.equal("two lanes by two", 2, x.pass(1));
        Check.equal("and two", 2, x.pass(1));
        x.set(1, 1);
        Check.equal("one lane", 1, x.pass(1));
        x.set(1, 3);
        x.pass(1);
        Check.rows("three lanes, one value each", Check.row(1, 1, 1),
                Check.row(x.moveOf(5, 6), x.moveOf(6, 6), x.moveOf(7, 6)));
        x.set(1, 1);
        x.move(3, 4, 3, 1, 1);
        Check.equal("more copying than lanes", 0, x.pass(1));
        Check.equal("which starts none", 0, x.moveOf(8, 5));
        x.set(0, 8);
        Check.equal("all the rest at once", 3, x.pass(1));
        Check.equal("then the next", 1, x.pass(1));
    }

    private static void write() {
        Engine x = new Engine();
        Check.undoable("the first cell", x, 0, () -> x.write(0, -999));
        Check.undoable("the last cell", x, 0, () -> x.write(47, 999));
        Check.undoable("the same value", x, -999, () -> x.write(0, -999));
        Check.equal("the value before", 999, x.write(47, 0));
        for (int cell : new int[] {-1, 48, 64, LEAST, GREATEST}) {
            Check.refused("cell " + cell, x, NO_SUCH, () -> x.write(cell, 1));
            Check.refused("cell and value", x, NO_SUCH, () -> x.write(cell, 1000));
        }
        for (int value : new int[] {-1000, 1000, LEAST, GREATEST}) {
            Check.refused("value " + value, x, RANGE, () -> x.write(1, value));
        }
        x.addRing(0, 4, 0);
        x.addRing(4, 8, 0);
        x.move(0, 0, 1, 0, 3);
        Check.refused("read by a waiting move", x, NOT_NOW, () -> x.write(0, 1));
        Check.refused("written by a waiting move", x, NOT_NOW, () -> x.write(6, 1));
        Check.refused("such a cell, and value", x, RANGE, () -> x.write(0, 1000));
        Check.undoable("a cell of a ring with no move", x, 0, () -> x.write(3, 5));
        x.pass(1);
        Check.refused("held", x, NOT_NOW, () -> x.write(2, 1));
        Check.refused("written by a copying move", x, NOT_NOW, () -> x.write(4, 1));
        x.pass(1);
        Check.refused("held until signed", x, NOT_NOW, () -> x.write(2, 1));
        Check.equal("target of a copied move", -999, x.write(4, 1));
        x.sign(1);
        Check.equal("source of a signed move", -999, x.write(0, 1));
    }

    private static void move() {
        Engine x = new Engine();
        x.addRing(0, 5, 0);
        x.addRing(8, 16, 0);
        Check.undoable("with the least numbers", x, 0, () -> x.move(0, 0, 1, 0, 1));
        Check.undoable("with the greatest", x, 1, () -> x.move(1, 99, 1, 99, 16));
        Check.undoable("within a ring", x, 2, () -> x.move(0, 1, 0, 2, 5));
        Check.undoable("backwards", x, 3, () -> x.move(1, 7, 0, 98, 5));
        Check.rows("move 3", Check.row(1, 7, 0, 98, 5, 0, 0, NONE, NONE, NONE), moveRow(x, 3));
        for (int ring : new int[] {-1, 2, 6, LEAST, GREATEST}) {
            Check.refused("from " + ring, x, NO_SUCH, () -> x.move(ring, 0, 0, 0, 1));
            Check.refused("to " + ring, x, NO_SUCH, () -> x.move(0, 0, ring, 0, 1));
            Check.refused("from, and place and count", x, NO_SUCH, () -> x.move(ring, 100, 0, -1, 0));
            Check.refused("to, and place and count", x, NO_SUCH, () -> x.move(0, 100, ring, -1, 0));
        }
        for (int place : new int[] {-1, 100, LEAST, GREATEST}) {
            Check.refused("from place " + place, x, RANGE, () -> x.move(0, place, 1, 0, 1));
            Check.refused("to place " + place, x, RANGE, () -> x.move(0, 0, 1, place, 1));
        }
        for (int count : new int[] {0, -1, 6, 17, LEAST, GREATEST}) {
            Check.refused("count for the source " + count, x, RANGE, () -> x.move(0, 0, 1, 0, count));
            Check.refused("count for the target " + count, x, RANGE, () -> x.move(1, 0, 0, 0, count));
        }
        Check.refused("count of a long ring", x, RANGE, () -> x.move(1, 0, 1, 0, 17));
    }

    private static void moveToFullTable() {
        Engine x = twoRings(0);
        for (int move = 0; move < 24; move++) {
            Check.equal("number", move, x.move(move % 2, move, (move + 1) % 2, move, 1));
        }
        Check.equal("moves", 24, x.whole(1));
        Check.refused("one more", x, NOT_NOW, () -> x.move(0, 0, 1, 0, 1));
        Check.refused("one more, and count", x, RANGE, () -> x.move(0, 0, 1, 0, 5));
        Check.refused("one more, and ring", x, NO_SUCH, () -> x.move(0, 0, 2, 0, 1));
        Check.equal("the last number of a move", 0, x.moveOf(23, 5));
        Check.refused("behind the last number", x, NO_SUCH, () -> x.moveOf(24, 5));
        x.pass(1);
        x.sign(1);
        Check.equal("swept", 1, x.sweep());
        Check.equal("room again", 23, x.move(0, 0, 1, 0, 1));
        Check.equal("it waits anew", 0, x.moveOf(23, 5));
    }

    private static void sign() {
        Engine x = twoRings(0);
        x.move(0, 0, 0, 2, 1);
        x.move(0, 1, 1, 0, 1);
        x.move(0, 1, 1, 1, 1);
        Check.refused("none is copied", x, NOT_NOW, () -> x.sign(1));
        x.pass(3);
        Check.undoable("the lowest number to the ring", x, 1, () -> x.sign(1));
        Check.rows("move 1", Check.row(0, 1, 1, 0, 1, 3, 1, 0, 0, 3), moveRow(x, 1));
        Check.equal("another is copied still", 2, x.moveOf(2, 5));
        Check.undoable("the next", x, 2, () -> x.sign(1));
        Check.refused("no more", x, NOT_NOW, () -> x.sign(1));
        x.strike(0, true);
        Check.refused("in a strike", x, NOT_NOW, () -> x.sign(0));
        x.strike(0, false);
        Check.equal("after the strike", 0, x.sign(0));
        Check.equal("signed in all", 3, x.whole(11));
        for (int ring : new int[] {-1, 2, 6, LEAST, GREATEST}) {
            Check.refused("ring " + ring, x, NO_SUCH, () -> x.sign(ring));
        }
    }

    private static void strike() {
        Engine x = twoRings(1);
        x.move(0, 0, 1, 0, 1);
        x.move(0, 1, 1, 1, 1);
        x.move(0, 2, 0, 3, 1);
        x.pass(1);
        Check.undoable("with two copied moves", x, 2, () -> x.strike(1, true));
        Check.equal("it strikes", 1, x.ring(1, 3));
        Check.equal("the other does not", 0, x.ring(0, 3));
        Check.refused("already", x, NOT_NOW, () -> x.strike(1, true));
        Check.refused("the other works already", x, NOT_NOW, () -> x.strike(0, false));
        x.pass(4);
        Check.rows("a ring that strikes does not sign", Check.row(2, 2, 3),
                Check.row(x.moveOf(0, 5), x.moveOf(1, 5), x.moveOf(2, 5)));
        Check.undoable("the end of the strike", x, 2, () -> x.strike(1, false));
        x.pass(1);
        Check.rows("then it signs", Check.row(3, 3, 5, 5),
                Check.row(x.moveOf(0, 5), x.moveOf(1, 5), x.moveOf(0, 9), x.moveOf(1, 9)));
        Check.equal("none is copied any more", 0, x.strike(1, true));
        for (int ring : new int[] {-1, 2, 6, LEAST, GREATEST}) {
            Check.refused("ring " + ring, x, NO_SUCH, () -> x.strike(ring, true));
        }
    }

    private static void pass() {
        Engine x = twoRings(0);
        x.move(0, 2, 1, 3, 3);
        x.move(1, 2, 0, 1, 1);
        Check.undoable("one tick", x, 1, () -> x.pass(1));
        Check.rows("its cells", Check.row(1, 7, 3, 4, 4, 6, 7, 3), cells(x, 0, 8));
        Check.equal("the held cells", 0b1001101, x.held());
        Check.undoable("two ticks", x, 1, () -> x.pass(2));
        Check.rows("their cells", Check.row(1, 7, 3, 4, 4, 1, 7, 3), cells(x, 0, 8));
        Check.equal("tick", 3, x.whole(8));
        Check.undoable("with nothing to do", x, 0, () -> x.pass(50));
        Check.equal("tick", 53, x.whole(8));
        for (int ticks : new int[] {0, -1, 51, LEAST, GREATEST}) {
            Check.refused("ticks " + ticks, x, RANGE, () -> x.pass(ticks));
        }
    }

    private static void patience() {
        Engine x = new Engine();
        x.addRing(0, 2, 0);
        x.addRing(2, 2, 1);
        x.addRing(4, 2, 2);
        x.addRing(6, 2, 50);
        x.set(1, 4);
        for (int ring = 0; ring < 4; ring++) {
            x.move(ring, 0, ring, 1, 1);
        }
        Check.equal("all four copied", 4, x.pass(1));
        x.pass(49);
        Check.rows("when they are signed", Check.row(NONE, 1, 2, NONE),
                Check.row(x.moveOf(0, 9), x.moveOf(1, 9), x.moveOf(2, 9), x.moveOf(3, 9)));
        x.pass(1);
        Check.equal("fifty ticks after", 50, x.moveOf(3, 9));
        x.setPatience(0, 5);
        x.pass(1);
        Check.equal("patience that comes later", 51, x.moveOf(0, 9));
        Check.equal("signed in all", 4, x.whole(11));
    }

    private static void orderOfTick() {
        Engine x = twoRings(1);
        x.move(0, 0, 1, 0, 2);
        x.move(0, 2, 0, 0, 2);
        x.move(0, 2, 1, 2, 2);
        x.move(1, 0, 1, 3, 1);
        Check.equal("move 1 waits for the hostages", 1, x.waitsFor(1));
        Check.equal("two lanes: moves 0 and 2", 2, x.pass(1));
        Check.rows("cells", Check.row(1, 2, 3, 4, 1, 2, 3, 4), cells(x, 0, 8));
        Check.equal("signed first, then started and copied", 2, x.pass(1));
        Check.rows("when", Check.row(0, 0, 1, 1, 1, NONE, 1, 1),
                Check.row(x.moveOf(0, 7), x.moveOf(0, 8), x.moveOf(0, 9), x.moveOf(1, 7), x.moveOf(1, 8),
                        x.moveOf(1, 9), x.moveOf(3, 7), x.moveOf(3, 8)));
        Check.rows("cells", Check.row(3, 4, 3, 4, 1, 2, 3, 1), cells(x, 0, 8));
        Engine y = twoRings(0);
        y.move(0, 0, 0, 1, 4);
        y.pass(2);
        Check.rows("a ring that turns keeps all values", Check.row(4, 1, 2, 3), cells(y, 0, 4));
    }

    private static void lastTick() {
        Engine x = twoRings(0);
        for (int k = 0; k < 199; k++) {
            x.pass(50);
        }
        Check.refused("one too many", x, NOT_NOW, () -> x.pass(50));
        Check.refused("out of range also here", x, RANGE, () -> x.pass(51));
        Check.equal("up to the last", 0, x.pass(49));
        Check.equal("the last tick", 9999, x.whole(8));
        Check.refused("one more", x, NOT_NOW, () -> x.pass(1));
        Check.refused("no ticks", x, RANGE, () -> x.pass(0));
        x.move(0, 0, 1, 0, 3);
        Check.equal("what if goes beyond", 2, x.copiedIn(0));
        Check.equal("not stuck", 0, x.stuck());
        x.undo();
        x.undo();
        Check.equal("undo goes back in ticks", 9950, x.whole(8));
    }

    private static void sweep() {
        Engine x = twoRings(0);
        Check.undoable("without moves", x, 0, x::sweep);
        x.set(1, 4);
        x.move(0, 0, 0, 1, 1);
        x.move(0, 3, 0, 2, 1);
        x.move(1, 0, 1, 1, 1);
        x.move(1, 3, 1, 2, 1);
        Check.undoable("with none signed", x, 0, x::sweep);
        x.pass(1);
        x.sign(1);
        x.sign(1);
        Check.undoable("none in front", x, 0, x::sweep);
        x.sign(0);
        Check.undoable("one in front", x, 1, x::sweep);
        Check.rows("move 1 is move 0", Check.row(0, 3, 0, 2, 1, 2, 1, 0, 0, NONE), moveRow(x, 0));
        Check.rows("move 2 is move 1", Check.row(1, 0, 1, 1, 1, 3, 1, 0, 0, 1), moveRow(x, 1));
        Check.equal("moves", 3, x.whole(1));
        x.move(0, 0, 0, 3, 1);
        Check.equal("waits by the new numbers", 0b1, x.waitsFor(3));
        x.sign(0);
        Check.undoable("up to the first that is not signed", x, 3, x::sweep);
        Check.rows("the last one", Check.row(0, 0, 0, 3, 1, 0, 0, NONE, NONE, NONE), moveRow(x, 0));
        Check.rows("whole", Check.row(2, 1, 1, 0, 0, 0, 2, 4, 1, 0, 4, 4, 4, x.whole(13), 0), wholes(x));
        Check.refused("no such move any more", x, NO_SUCH, () -> x.moveOf(1, 0));
        x.pass(1);
        x.sign(0);
        Check.equal("all", 1, x.sweep());
        Check.equal("no moves", 0, x.whole(1));
        Check.equal("swept in all", 5, x.whole(12));
    }

    private static void sweepWithHostages() {
        Engine x = twoRings(0);
        x.set(0, 1);
        x.move(0, 0, 1, 0, 1);
        x.move(0, 1, 1, 1, 3);
        x.move(1, 1, 1, 0, 1);
        x.pass(2);
        x.sign(1);
        Check.undoable("one in front", x, 1, x::sweep);
        Check.rows("the copying one", Check.row(0, 1, 1, 1, 3, 1, 2, 0, NONE, NONE), moveRow(x, 0));
        Check.rows("its hostages", Check.row(4, NONE), Check.row(x.hostage(0, 0), x.hostage(0, 1)));
        Check.equal("its source cells", 0b1110, x.cellSet(0, false));
        Check.equal("its target cells", 0b11100000, x.cellSet(0, true));
        Check.rows("finals", Check.row(2, 2, 3, 4), finals(x, 4, 4));
        Check.equal("it goes on", 1, x.pass(1));
        Check.equal("and the next", 1, x.pass(1));
        Check.rows("cells", Check.row(2, 2, 3, 4), cells(x, 4, 4));
        x.sign(1);
        x.sign(1);
        Check.equal("both", 2, x.sweep());
        x.move(1, 0, 0, 0, 4);
        x.pass(1);
        x.undo();
        Check.equal("a new one in the old place", 0, x.moveOf(0, 5));
        Check.rows("finals of the new one", Check.row(2, 2, 3, 4), finals(x, 0, 4));
    }

    private static void fullTableAtWork() {
        Engine x = twoRings(2);
        x.set(0, 8);
        x.set(1, 4);
        for (int move = 0; move < 24; move++) {
            x.move(move % 2, move % 3, move % 2, 3, 1);
        }
        Check.view(x);
        int copied = 0;
        for (int tick = 0; tick < 60; tick++) {
            copied += x.pass(1);
        }
        Check.equal("all copied", 24, copied);
        Check.rows("whole", Check.row(2, 24, 0, 0, 0, 24, 8, 4, 60, 0, 24, 24, 0, x.whole(13), 0), wholes(x));
        Check.undoable("all swept", x, 24, x::sweep);
    }

    private static void cell() {
        Engine x = twoRings(0);
        Check.changesNothing("the first", x, 1, () -> x.cell(0));
        x.write(47, -7);
        Check.changesNothing("the last", x, -7, () -> x.cell(47));
        for (int cell : new int[] {-1, 48, LEAST, GREATEST}) {
            Check.refused("cell " + cell, x, NO_SUCH, () -> x.cell(cell));
        }
    }

    private static void ring() {
        Engine x = twoRings(9);
        x.move(0, 0, 1, 0, 1);
        x.move(0, 1, 1, 1, 1);
        x.move(1, 2, 0, 2, 2);
        x.move(0, 1, 0, 2, 1);
        x.move(0, 0, 1, 0, 1);
        x.pass(1);
        x.strike(0, true);
        Check.rows("ring 0", Check.row(0, 4, 9, 1, 4, 2, 0, 10), ringRow(x, 0));
        Check.rows("ring 1", Check.row(4, 4, 9, 0, 1, 3, 2, 18), ringRow(x, 1));
        x.sign(1);
        Check.rows("ring 0 then", Check.row(0, 4, 9, 1, 3, 2, 0, 10), ringRow(x, 0));
        Check.rows("ring 1 then", Check.row(4, 4, 9, 0, 1, 2, 1, 18), ringRow(x, 1));
        Check.changesNothing("ring", x, 18, () -> x.ring(1, 7));
        for (int ring : new int[] {-1, 2, 6, LEAST, GREATEST}) {
            Check.refused("ring " + ring, x, NO_SUCH, () -> x.ring(ring, 0));
            Check.refused("ring and what", x, NO_SUCH, () -> x.ring(ring, 8));
        }
        for (int what : new int[] {-1, 8, LEAST, GREATEST}) {
            Check.refused("what " + what, x, RANGE, () -> x.ring(0, what));
        }
    }

    private static void moveOf() {
        Engine x = twoRings(0);
        x.pass(5);
        x.move(1, 98, 0, 7, 3);
        Check.rows("waiting", Check.row(1, 98, 0, 7, 3, 0, 0, NONE, NONE, NONE), moveRow(x, 0));
        x.pass(1);
        Check.rows("copying", Check.row(1, 98, 0, 7, 3, 1, 2, 5, NONE, NONE), moveRow(x, 0));
        x.pass(1);
        Check.rows("copied", Check.row(1, 98, 0, 7, 3, 2, 3, 5, 6, NONE), moveRow(x, 0));
        x.pass(2);
        x.sign(0);
        Check.rows("signed by hand", Check.row(1, 98, 0, 7, 3, 3, 3, 5, 6, 9), moveRow(x, 0));
        Check.changesNothing("moveOf", x, 98, () -> x.moveOf(0, 1));
        for (int move : new int[] {-1, 1, 24, LEAST, GREATEST}) {
            Check.refused("move " + move, x, NO_SUCH, () -> x.moveOf(move, 0));
            Check.refused("move and what", x, NO_SUCH, () -> x.moveOf(move, 10));
        }
        for (int what : new int[] {-1, 10, LEAST, GREATEST}) {
            Check.refused("what " + what, x, RANGE, () -> x.moveOf(0, what));
        }
    }

    private static void hostage() {
        Engine x = twoRings(0);
        x.set(0, 1);
        x.move(0, 2, 1, 0, 4);
        Check.changesNothing("waiting", x, NONE, () -> x.hostage(0, 0));
        x.pass(1);
        Check.rows("copying", Check.row(4, 1, 2, NONE, NONE),
                Check.row(x.hostage(0, 0), x.hostage(0, 1), x.hostage(0, 2), x.hostage(0, 3), x.hostage(0, 4)));
        Check.changesNothing("a great index", x, NONE, () -> x.hostage(0, GREATEST));
        Check.changesNothing("behind the row", x, NONE, () -> x.hostage(0, 16));
        x.pass(2);
        Check.rows("the last one", Check.row(2, NONE), Check.row(x.hostage(0, 0), x.hostage(0, 1)));
        x.pass(1);
        Check.changesNothing("copied", x, NONE, () -> x.hostage(0, 0));
        x.sign(1);
        Check.changesNothing("signed", x, NONE, () -> x.hostage(0, 0));
        for (int move : new int[] {-1, 1, 24, LEAST, GREATEST}) {
            Check.refused("move " + move, x, NO_SUCH, () -> x.hostage(move, 0));
            Check.refused("move and index", x, NO_SUCH, () -> x.hostage(move, -1));
        }
        for (int index : new int[] {-1, LEAST}) {
            Check.refused("index " + index, x, RANGE, () -> x.hostage(0, index));
        }
    }

    private static void cellSet() {
        Engine x = new Engine();
        x.addRing(0, 16, 0);
        x.addRing(43, 5, 0);
        x.move(0, 14, 1, 3, 4);
        x.move(1, 99, 0, 96, 5);
        x.move(0, 99, 0, 16, 16);
        Check.changesNothing("source round the end", x, 0b1100000000000011L, () -> x.cellSet(0, false));
        Check.changesNothing("target in the last cells", x, 0b11011L << 43, () -> x.cellSet(0, true));
        Check.equal("a whole short ring", 0b11111L << 43, x.cellSet(1, false));
        Check.equal("place 96 of sixteen", 0b11111, x.cellSet(1, true));
        Check.equal("a whole long ring", 0xffff, x.cellSet(2, false));
        Check.equal("and as a target", 0xffff, x.cellSet(2, true));
        x.pass(50);
        Check.equal("in any state", 0b1100000000000011L, x.cellSet(0, false));
        for (int move : new int[] {-1, 3, 24, LEAST, GREATEST}) {
            Check.refused("move " + move, x, NO_SUCH, () -> x.cellSet(move, true));
            Check.refused("move " + move, x, NO_SUCH, () -> x.cellSet(move, false));
        }
    }

    private static void held() {
        Engine x = new Engine();
        x.addRing(44, 4, 0);
        x.addRing(0, 4, 0);
        x.move(0, 1, 1, 0, 3);
        x.move(0, 2, 1, 3, 1);
        Check.changesNothing("none by waiting moves", x, 0, x::held);
        x.pass(1);
        Check.changesNothing("by a copying and a copied one", x, 0b1110L << 44, x::held);
        Check.equal("as many", 3, x.whole(9));
        x.pass(1);
        Check.equal("by copied ones", 0b1110L << 44, x.held());
        x.sign(1);
        Check.equal("until signed", 0b0100L << 44, x.held());
        x.sign(1);
        Check.equal("none by signed ones", 0, x.held());
    }

    private static void whole() {
        Engine x = twoRings(0);
        x.set(0, 1);
        x.set(1, 3);
        x.move(0, 0, 1, 0, 1);
        x.move(0, 0, 1, 1, 1);
        x.move(0, 2, 1, 2, 2);
        x.move(1, 0, 0, 0, 1);
        Check.equal("copied", 2, x.pass(1));
        x.sign(1);
        Check.type(x, "put");
        Check.rows("whole", Check.row(2, 4, 1, 1, 1, 1, 1, 3, 1, 3, 2, 1, 0, 23, 3), wholes(x));
        Check.equal("swept", 1, x.sweep());
        Check.rows("whole then", Check.row(2, 3, 1, 1, 1, 0, 1, 3, 1, 3, 2, 1, 1, 23, 3), wholes(x));
        Check.changesNothing("whole", x, 23, () -> x.whole(13));
        x.write(47, -999);
        Check.equal("sum with cells in no ring", -976, x.whole(13));
        for (int what : new int[] {-1, 15, LEAST, GREATEST}) {
            Check.refused("what " + what, x, RANGE, () -> x.whole(what));
        }
    }

    private static void reason() {
        Engine x = new Engine();
        x.addRing(0, 4, 0);
        x.addRing(4, 4, 0);
        x.addRing(44, 4, 0);
        x.set(0, 1);
        x.set(1, 1);
        x.move(0, 0, 1, 0, 2);
        x.move(2, 0, 0, 0, 1);
        x.move(0, 2, 1, 1, 1);
        x.pass(1);
        Check.rows("copying", Check.row(1, 1, 2, 0, 3, 2, 0, 0, 2, 0),
                Check.row(x.reason(0), x.reason(1), x.reason(2), x.reason(3), x.reason(4), x.reason(5), x.reason(6),
                        x.reason(7), x.reason(44), x.reason(47)));
        x.pass(1);
        Check.rows("copied", Check.row(1, 1, 2, 0, 0, 2),
                Check.row(x.reason(0), x.reason(1), x.reason(2), x.reason(3), x.reason(4), x.reason(5)));
        x.pass(1);
        x.sign(1);
        Check.rows("signed", Check.row(2, 0, 1, 0, 0, 0),
                Check.row(x.reason(0), x.reason(1), x.reason(2), x.reason(3), x.reason(4), x.reason(5)));
        Check.changesNothing("reason", x, 2, () -> x.reason(44));
        Check.equal("a cell in no ring", 0, x.reason(30));
        for (int cell : new int[] {-1, 48, 64, LEAST, GREATEST}) {
            Check.refused("cell " + cell, x, NO_SUCH, () -> x.reason(cell));
        }
    }

    private static void waitsFor() {
        Engine x = new Engine();
        x.addRing(0, 8, 0);
        x.addRing(8, 8, 0);
        x.addRing(40, 8, 0);
        x.set(0, 1);
        x.set(1, 4);
        x.move(0, 0, 1, 0, 2);
        x.move(2, 0, 0, 1, 1);
        x.move(1, 1, 2, 4, 1);
        x.move(2, 7, 1, 0, 1);
        x.move(0, 0, 1, 6, 1);
        Check.changesNothing("for none", x, 0, () -> x.waitsFor(0));
        Check.changesNothing("for the source of another", x, 0b1, () -> x.waitsFor(1));
        Check.equal("to read what another writes", 0b1, x.waitsFor(2));
        Check.equal("to write what another writes", 0b1, x.waitsFor(3));
        Check.equal("not to read what another reads", 0, x.waitsFor(4));
        x.pass(1);
        Check.rows("while copying", Check.row(0, 0b1, 0b1, 0b1, 0),
                Check.row(x.waitsFor(0), x.waitsFor(1), x.waitsFor(2), x.waitsFor(3), x.waitsFor(4)));
        x.pass(1);
        Check.rows("when copied", Check.row(0, 0b1, 0, 0),
                Check.row(x.waitsFor(0), x.waitsFor(1), x.waitsFor(2), x.waitsFor(3)));
        x.sign(1);
        Check.equal("when signed", 0, x.waitsFor(1));
        Engine y = twoRings(0);
        y.move(0, 0, 1, 0, 1);
        y.move(0, 1, 1, 1, 1);
        y.move(0, 2, 1, 0, 2);
        Check.equal("for two", 0b11, y.waitsFor(2));
        y.move(1, 3, 0, 0, 3);
        Check.equal("for hostages to come", 0b111, y.waitsFor(3));
    }

    private static void depth() {
        Engine x = twoRings(0);
        for (int move = 0; move < 24; move++) {
            x.move(0, 0, 1, 0, 1);
        }
        Check.equal("none", 0, x.depth(0));
        Check.changesNothing("the deepest", x, 23, () -> x.depth(23));
        x.pass(1);
        Check.equal("a copied one", 0, x.depth(0));
        Check.equal("the next", 0, x.depth(1));
        Check.equal("the deepest then", 22, x.depth(23));
        Engine y = twoRings(0);
        y.move(0, 0, 1, 0, 1);
        y.move(1, 0, 1, 1, 1);
        y.move(0, 2, 1, 2, 1);
        y.move(1, 2, 1, 1, 1);
        y.move(0, 3, 0, 2, 1);
        Check.rows("the greatest counts", Check.row(0, 1, 0, 2, 1),
                Check.row(y.depth(0), y.depth(1), y.depth(2), y.depth(3), y.depth(4)));
        for (int move : new int[] {-1, 24, LEAST, GREATEST}) {
            Check.refused("depth of move " + move, x, NO_SUCH, () -> x.depth(move));
            Check.refused("waitsFor of move " + move, x, NO_SUCH, () -> x.waitsFor(move));
        }
        Check.refused("depth behind the last", y, NO_SUCH, () -> y.depth(5));
        Check.refused("waitsFor behind the last", y, NO_SUCH, () -> y.waitsFor(5));
    }

    private static void finalValue() {
        Engine x = twoRings(0);
        Check.rows("without moves", Check.row(1, 2, 3, 4, 5, 6, 7, 8), finals(x, 0, 8));
        x.set(0, 1);
        x.set(1, 1);
        x.move(0, 0, 1, 0, 2);
        x.move(1, 1, 0, 1, 2);
        x.move(0, 2, 0, 3, 4);
        Check.rows("all waiting", finalsByHand(), finals(x, 0, 8));
        for (int tick = 0; tick < 12; tick++) {
            x.pass(1);
            if (tick % 4 == 3) {
                x.sign(tick == 3 ? 1 : 0);
            }
            Check.rows("tick " + tick, finalsByHand(), finals(x, 0, 8));
        }
        Check.rows("in the end", finalsByHand(), cells(x, 0, 8));
        Check.changesNothing("finalValue", x, 0, () -> x.finalValue(47));
        for (int cell : new int[] {-1, 48, LEAST, GREATEST}) {
            Check.refused("cell " + cell, x, NO_SUCH, () -> x.finalValue(cell));
        }
    }

    /** 1 to 8, then 1 2 to the places of 5 6, then 2 7 to those of 2 3, then the first ring (2 7) turned by one. */
    private static long[] finalsByHand() {
        return Check.row(4, 1, 2, 7, 1, 2, 7, 8);
    }

    private static void copiedIn() {
        Engine x = twoRings(2);
        x.set(0, 1);
        x.move(0, 0, 1, 0, 4);
        x.move(1, 3, 0, 0, 2);
        x.move(1, 3, 0, 1, 1);
        Check.changesNothing("the first", x, 4, () -> x.copiedIn(0));
        Check.changesNothing("after patience", x, 7, () -> x.copiedIn(1));
        Check.equal("after the second", 8, x.copiedIn(2));
        x.pass(3);
        Check.equal("one tick left", 1, x.copiedIn(0));
        Check.equal("and so on", 4, x.copiedIn(1));
        x.pass(1);
        Check.equal("copied", 0, x.copiedIn(0));
        x.pass(2);
        Check.equal("signed", 0, x.copiedIn(0));
        Check.equal("started in this tick", 1, x.copiedIn(1));
        Engine y = twoRings(0);
        y.move(0, 0, 1, 0, 1);
        y.move(1, 0, 0, 0, 1);
        Check.equal("never", NONE, y.copiedIn(1));
        for (int move : new int[] {-1, 3, 24, LEAST, GREATEST}) {
            Check.refused("move " + move, x, NO_SUCH, () -> x.copiedIn(move));
        }
    }

    /** A chain in which each move waits until the one before it is signed, fifty ticks after it is copied. */
    private static void copiedInAtBound() {
        Engine x = twoRings(50);
        for (int move = 0; move < 7; move++) {
            x.move(move % 2, 0, (move + 1) % 2, 0, 1);
        }
        Check.rows("fifty more each", Check.row(1, 51, 101, 151, 201, 251, NONE),
                Check.row(x.copiedIn(0), x.copiedIn(1), x.copiedIn(2), x.copiedIn(3), x.copiedIn(4), x.copiedIn(5),
                        x.copiedIn(6)));
        x.pass(1);
        Check.rows("within 300", Check.row(0, 50, 100, 150, 200, 250, 300),
                Check.row(x.copiedIn(0), x.copiedIn(1), x.copiedIn(2), x.copiedIn(3), x.copiedIn(4), x.copiedIn(5),
                        x.copiedIn(6)));
    }

    private static void stuck() {
        Engine x = twoRings(0);
        Check.changesNothing("no moves", x, 0, x::stuck);
        x.move(0, 0, 1, 0, 1);
        x.move(1, 0, 0, 0, 1);
        Check.equal("the first can start", 0, x.stuck());
        x.set(1, 1);
        x.pass(1);
        Check.changesNothing("the second waits for a hostage", x, 1, x::stuck);
        x.setPatience(1, 50);
        Check.equal("which will be signed", 0, x.stuck());
        x.strike(1, true);
        Check.equal("not in a strike", 1, x.stuck());
        x.strike(1, false);
        x.sign(1);
        Check.equal("signed", 0, x.stuck());
        x.set(0, 1);
        x.setPatience(1, 0);
        Check.equal("the second can start", 0, x.stuck());
        x.pass(1);
        Check.equal("none is waiting", 0, x.stuck());
        x.move(0, 1, 1, 1, 3);
        x.move(1, 1, 0, 1, 1);
        x.pass(1);
        Check.equal("one is copying, none would start", 0, x.stuck());
        x.pass(1);
        Check.equal("still copying", 1, x.whole(3));
        Check.equal("still copying", 0, x.stuck());
        x.pass(1);
        Check.equal("then stuck", 1, x.stuck());
        x.move(1, 3, 0, 2, 1);
        Check.equal("also behind another hostage", 1, x.stuck());
        x.sign(0);
        Check.equal("another ring has signed", 1, x.stuck());
        x.move(1, 3, 0, 0, 1);
        Check.equal("to a cell that is free", 0, x.stuck());
        x.undo();
        x.sign(1);
        Check.equal("the ring has signed", 0, x.stuck());
    }

    /** Two rings with patience sign within 50 ticks, so only a chain of hostages comes beyond 60. */
    private static void stuckAtBound() {
        Engine x = twoRings(50);
        x.set(1, 1);
        x.move(0, 0, 1, 0, 1);
        x.move(1, 0, 0, 0, 1);
        x.pass(1);
        Check.equal("in 50 ticks", 0, x.stuck());
        x.setPatience(1, 0);
        Check.equal("never", 1, x.stuck());
        x.move(0, 1, 1, 1, 1);
        Check.equal("another starts at once", 0, x.stuck());
        x.pass(1);
        Check.equal("and is copied", 1, x.stuck());
    }

    private static void type() {
        Engine x = new Engine();
        Check.equal("the least byte", 1, x.type(0));
        Check.equal("the greatest byte", 2, x.type(127));
        for (int value : new int[] {-1, 128, LEAST, GREATEST}) {
            Check.refused("value " + value, x, RANGE, () -> x.type(value));
        }
        for (int length = 3; length <= 150; length++) {
            Check.equal("length", length, x.type(' '));
        }
        Check.refused("one more byte", x, NOT_NOW, () -> x.type(' '));
        Check.refused("one more byte, and value", x, RANGE, () -> x.type(128));
        Check.equal("whole", 150, x.whole(14));
        Check.refused("it saves no state", x, NOT_NOW, x::undo);
        Check.equal("fault of a control byte", -10, x.runCommands());
    }

    private static void clearCommands() {
        Engine x = new Engine();
        Check.equal("empty", 0, x.clearCommands());
        Check.type(x, "put 0 1;");
        Check.equal("its length", 8, x.clearCommands());
        Check.equal("emptied", 0, x.whole(14));
        Check.equal("again", 0, x.clearCommands());
        Check.refused("it saves no state", x, NOT_NOW, x::undo);
        Check.type(x, "put 1 2;");
        Check.equal("only what came since", 1, x.runCommands());
        Check.rows("cells", Check.row(0, 2), cells(x, 0, 2));
    }

    private static void runCommands() {
        Engine x = new Engine();
        Check.type(x, "ring 0 4 3;ring 4 005 0 ;  put 2 999; set 1 1;move 0 2 1 4 2;strike 1;");
        Check.undoable("all but ticks and sign", x, 6, x::runCommands);
        Check.equal("states", 1, x.states());
        Check.equal("the text stays", 70, x.whole(14));
        Check.rows("ring 0", Check.row(0, 4, 3, 0, 1, 0, 0, 999), ringRow(x, 0));
        Check.rows("ring 1", Check.row(4, 5, 0, 1, 0, 1, 0, 0), ringRow(x, 1));
        Check.rows("move 0", Check.row(0, 2, 1, 4, 2, 0, 0, NONE, NONE, NONE), moveRow(x, 0));
        Check.equal("lanes", 1, x.whole(7));
        Check.equal("the rest", 5, Check.run(x, "ticks 3;work 1;sign 1;set 0 8;put 47 7;"));
        Check.rows("move 0 then", Check.row(0, 2, 1, 4, 2, 3, 2, 0, 0, 3), moveRow(x, 0));
        Check.rows("whole", Check.row(2, 1, 0, 0, 0, 1, 8, 1, 3, 0, 1, 1, 0, 2005, 39), wholes(x));
        Check.undoable("the same text again: no strike", x, 1, x::runCommands);
        Check.equal("undo keeps the text", 39, x.whole(14));
        for (String empty : new String[] {"", " ", "     "}) {
            Engine y = new Engine();
            Check.equal("no commands", 0, Check.run(y, empty));
            Check.equal("a state is saved", 0, y.undo());
            Check.refused("one alone", y, NOT_NOW, y::undo);
        }
        Engine z = new Engine();
        Check.equal("ticks", 16, Check.run(z, "ticks 50;".repeat(16)));
        Check.equal("tick", 800, z.whole(8));
        Check.equal("a text of 150 bytes", 18, Check.run(z, "put 0 1;".repeat(18) + "      "));
    }

    private static void mostCommands() {
        Engine x = new Engine();
        x.addRing(0, 2, 0);
        x.set(1, 1);
        for (int move = 0; move < 21; move++) {
            x.move(0, 0, 0, 1, 1);
        }
        x.pass(21);
        Check.equal("the most commands", 21, Check.run(x, "sign 0;".repeat(21)));
        Check.equal("all signed", 21, x.whole(5));
        Check.equal("with a fault behind the most commands", -157, Check.run(x, "sign 0;".repeat(21) + "s"));
        Check.equal("with a fault in the last byte", -159,
                Check.run(new Engine(), "put 0 1;".repeat(18) + "     ;"));
    }

    private static void commandsThatWouldThrow() {
        String[] texts = {"ring 48 10 0;", "ring 0 10 0;", "ring 48 2 0;", "ring 0 1 0;", "ring 3 2 0;",
            "ring 20 2 51;", "ring 47 2 0;", "move 2 0 0 0 1;", "move 0 2 2 0 1;", "move 0 100 0 0 1;",
            "move 0 0 0 100 1;", "move 0 0 0 0 0;", "move 0 0 0 0 5;", "sign 2;", "sign 0;", "sign 999;", "strike 2;",
            "work 2;", "work 0;", "put 48 0;", "put 999 999;", "set 2 1;", "set 0 0;", "set 0 9;", "set 1 5;",
            "ticks 0;", "ticks 51;", "ticks 999;"};
        for (String text : texts) {
            Engine x = twoRings(0);
            Check.equal(text, 0, Check.run(x, text));
            Check.equal(text + " after another", 1, Check.run(x, "put 9 8;" + text + "put 10 9;"));
            Check.rows(text + ": what stays done", Check.row(8, 0), cells(x, 9, 2));
        }
        Engine x = twoRings(0);
        Check.equal("to a strike", 1, Check.run(x, "strike 0;strike 0;"));
        Check.equal("no value that is too great stands in three digits", 1, Check.run(x, "put 20 999;"));
        Check.equal("a cell of a move", 1, Check.run(x, "move 0 0 1 0 1;put 0 1;"));
        for (int move = 1; move < 24; move++) {
            x.move(0, 0, 1, 0, 1);
        }
        Check.equal("a full table", 0, Check.run(x, "move 0 0 1 0 1;"));
        Check.equal("a state is saved also then", 4, x.states());
        Engine y = new Engine();
        for (int k = 0; k < 199; k++) {
            y.pass(50);
        }
        Check.equal("the last tick", 2, Check.run(y, "ticks 48;ticks 1;ticks 1;"));
        Check.equal("tick", 9999, y.whole(8));
    }

    private static void faults() {
        String[] texts = {
            "rin", "0", "rings 0 2 0;", "0", "r", "0", "  ri ", "2", "put 0 1; wor", "9", "worked", "0",
            "abc def;", "0", "ring", "4",
            "ring ", "5", "ring 0", "6", "ring 0 2 0", "10", "ring 0 2 0 ", "11", "ring;", "4",
            "ring ;", "5", "ring0 2 0;", "4", "ring 0;", "6", "ring 0 2;", "8", "ring 0 2 0 0;", "11",
            "ring 0 2 0x;", "10", "ring 0002 2 0;", "8", "ring 0 2 0000;", "12", "ring 000 002 000;", "ok",
            "ring 0 2 -1;", "9", "ring 0 2 0;;", "11", ";", "0", " ;", "1", "Ring 0 2 0;", "0", "ring\t0 2 0;", "4",
            "RING", "0", "put 0 1;5", "8", "put 0 1; put", "12", "put 0 1; put 0 1 ; \n", "19", "put 0,1;", "5",
            "put 0 1;put 0 1", "15", "sign 0 0;", "7", "strike;", "6", "work 1 ;", "ok", "ticks 1 ;  ", "ok",
            "   set   0   1   ;   ", "ok", "move 0 0 0 0;", "12", "move 0 0 0 0 0;", "ok", "set 1 1;x", "8",
            "{", "0", "`", "0", "put{0 1;", "3", "put 0 /;", "6", "put 0 :;", "6", "put 1:1;", "5", "putz 0 1;", "0",
            "strik 0;", "0", "ring 0 2 0:", "10", "pu t 0 1;", "0", "put 0 1 2;", "8", "put 12 345 ;", "ok",
            "put 0 \0", "6", "sign 1;sign 2;sing 3;", "14",
            "ring ;x", "5", "put 1;2 3;", "5", "put 1x;", "5"};
        for (int k = 0; k < texts.length; k += 2) {
            Engine x = new Engine();
            int answer = Check.run(x, texts[k]);
            if (texts[k + 1].equals("ok")) {
                Check.isTrue("no fault in '" + texts[k] + "'", answer >= 0);
                Check.equal("a state is saved", 0, x.undo());
            } else {
                Check.equal("'" + texts[k] + "'", -10 - Integer.parseInt(texts[k + 1]), answer);
                Check.equal("nothing is done", 0, x.cell(0) + x.whole(0) + x.whole(8));
                Check.refused("no state is saved", x, NOT_NOW, x::undo);
                Check.equal("the text stays", texts[k].length(), x.whole(14));
            }
        }
    }

    private static void textsAfterOthers() {
        Engine x = new Engine();
        String[] texts = {"rings 0 2 0;", "-10", "ring", "-14", "put 0 123;", "1", "put 0 12", "-18", "put 0 1;", "1",
            "put 0 1", "-17", "put", "-13", "put 0 45 ;", "1", "put 0 45 ", "-19", "", "0", "put 1 1;;", "-18",
            "put 1 1;", "1"};
        for (int k = 0; k < texts.length; k += 2) {
            Check.equal("'" + texts[k] + "'", Integer.parseInt(texts[k + 1]), Check.run(x, texts[k]));
        }
        Check.rows("cells", Check.row(45, 1), cells(x, 0, 2));
        Check.equal("states", 4, x.states());
    }

    private static void undo() {
        Engine x = new Engine();
        Check.refused("an empty stack", x, NOT_NOW, x::undo);
        long[] heights = new long[7];
        for (int value = 1; value <= 7; value++) {
            x.write(0, value);
            heights[value - 1] = x.states();
        }
        Check.rows("heights", Check.row(1, 2, 3, 4, 4, 4, 4), heights);
        Check.type(x, "put 1 1;");
        for (int left = 3; left >= 0; left--) {
            Check.equal("left", left, x.undo());
            Check.equal("value", 3 + left, x.cell(0));
            Check.equal("height", left, x.states());
        }
        Check.refused("no more than four", x, NOT_NOW, x::undo);
        Check.equal("the command text is not undone", 8, x.whole(14));
        x.write(0, 3);
        Check.equal("also a change of nothing is saved", 0, x.undo());
        x.write(0, 50);
        x.write(0, 60);
        x.undo();
        x.write(0, 70);
        x.undo();
        x.undo();
        Check.equal("in turn with others", 3, x.cell(0));
        Engine y = twoRings(1);
        y.move(0, 0, 1, 0, 4);
        long[] before = Check.view(y);
        y.pass(1);
        long[] copying = Check.view(y);
        y.pass(3);
        y.sweep();
        y.addRing(20, 2, 0);
        y.undo();
        y.undo();
        y.undo();
        Check.rows("with its hostages", copying, Check.view(y));
        y.undo();
        Check.rows("before it started", before, Check.view(y));
        Engine z = twoRings(0);
        z.move(0, 0, 1, 0, 4);
        z.pass(1);
        long[] hostages = Check.view(z);
        z.undo();
        z.undo();
        z.undo();
        Check.equal("other values in between", 4, z.write(3, -5));
        z.undo();
        z.addRing(4, 4, 0);
        z.move(1, 0, 0, 0, 4);
        z.pass(1);
        z.undo();
        z.undo();
        z.move(0, 0, 1, 0, 4);
        z.pass(1);
        Check.rows("the same calls again", hostages, Check.view(z));
        Check.equal("it goes on from there", 1, y.pass(2));
        Check.rows("cells", Check.row(1, 2, 3, 4), cells(y, 4, 4));
    }

    private static void digest() {
        Engine x = new Engine();
        long h = 43476;
        long[] start = new long[1 + 15 + 96 + 1];
        start[1 + 6] = 2;
        start[1 + 7] = 2;
        for (long value : start) {
            h = 31 * h + value;
        }
        Check.equal("a new object", h, x.digest());
        Check.equal("again", h, x.digest());
        Engine y = twoRings(2);
        y.move(0, 0, 1, 0, 4);
        y.move(1, 3, 0, 2, 2);
        y.move(0, 1, 0, 0, 3);
        for (int tick = 0; tick < 8; tick++) {
            Check.equal("tick " + tick, Check.digestOf(y, 4), y.digest());
            y.pass(1);
        }
        Check.type(y, "x");
        Check.equal("with a text", Check.digestOf(y, 4), y.digest());
        y.undo();
        Check.equal("after undo", Check.digestOf(y, 3), y.digest());
    }
}
