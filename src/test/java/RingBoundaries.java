/** The boundary cases of the promises 1 to 5, 11 and 12: a new object, memory, rings and settings. */
final class RingBoundaries extends Boundary {
    private RingBoundaries() {
    }

    static void all() {
        newObject();
        newObjectInside();
        addRingNumbers();
        addRingPlaces();
        addRingExceptions();
        setPatience();
        set();
        settingsAtWork();
        writeNumbers();
        writeReasons();
        cell();
        ringNumbers();
        ringValues();
    }

    private static void newObject() {
        test("1: a memory of zeros, 48 cells from 0 on", x -> {
            rows(new long[48], cells(x, 0, 48));
            refused(x, NO_SUCH, () -> x.cell(-1));
            refused(x, NO_SUCH, () -> x.cell(48));
        });
        test("1: without rings: not even the ring 0", x -> {
            equal(0, whole(x, 0));
            refused(x, NO_SUCH, () -> x.setPatience(0, 1));
            refused(x, NO_SUCH, () -> x.move(0, 0, 0, 0, 1));
            refused(x, NO_SUCH, () -> x.sign(0));
            refused(x, NO_SUCH, () -> x.strike(0, true));
            refused(x, NO_SUCH, () -> x.ring(0, 0));
        });
        test("1: without moves: not even the move 0", x -> {
            rows(row(0, 0, 0, 0, 0), row(whole(x, 1), whole(x, 2), whole(x, 3), whole(x, 4), whole(x, 5)));
            refused(x, NO_SUCH, () -> x.moveOf(0, 0));
            refused(x, NO_SUCH, () -> x.hostage(0, 0));
            refused(x, NO_SUCH, () -> x.cellSet(0, false));
            refused(x, NO_SUCH, () -> x.cellSet(0, true));
            refused(x, NO_SUCH, () -> x.waitsFor(0));
            refused(x, NO_SUCH, () -> x.depth(0));
            refused(x, NO_SUCH, () -> x.copiedIn(0));
            answers(x, 0, () -> x.held());
            answers(x, 0, () -> x.stuck());
        });
        test("1: at tick 0", x -> {
            equal(0, whole(x, 8));
            undoable(x, 0, () -> x.pass(1));
            equal(1, whole(x, 8));
        });
        test("1: ticks are numbered from 0", x -> {
            twoRings(x);
            x.move(0, 0, 1, 0, 1);
            x.pass(1);
            rows(row(0, 0), row(x.moveOf(0, 7), x.moveOf(0, 8)));
        });
        test("1: nothing copied, signed or swept yet", x ->
            rows(row(0, 0, 0), row(whole(x, 10), whole(x, 11), whole(x, 12))));
    }

    private static void newObjectInside() {
        test("1: speed 2 at first", x -> {
            equal(2, whole(x, 6));
            twoRings(x);
            x.move(0, 0, 1, 0, 3);
            x.pass(1);
            equal(2, x.moveOf(0, 6));
        });
        test("1: lanes 2 at first", x -> {
            equal(2, whole(x, 7));
            twoRings(x);
            x.move(0, 0, 1, 0, 1);
            x.move(0, 1, 1, 1, 1);
            x.move(0, 2, 1, 2, 1);
            equal(2, x.pass(1));
            rows(row(COPIED, COPIED, WAITING), states(x));
        });
        test("1: an empty command text", x -> {
            equal(0, whole(x, 14));
            answers(x, 0, () -> x.clearCommands());
            undoable(x, 0, () -> x.runCommands());
            equal(1, x.type('a'));
        });
        test("1: an empty undo stack", x -> {
            refused(x, NOT_NOW, () -> x.undo());
            x.write(0, 1);
            equal(0, x.undo());
            refused(x, NOT_NOW, () -> x.undo());
        });
        test("1: the 512th call is answered like those before it", x -> {
            for (int call = 1; call < Engine.MOST_CALLS - 2; call++) {
                x.pass(1);
            }
            equal(1, x.type('a'));
            equal(3, x.undo());
            equal(508, x.whole(8));
        });
        test("1: a new object has nothing of another one", x -> {
            twoRings(x);
            x.set(0, 5);
            x.move(0, 0, 1, 0, 3);
            x.pass(2);
            Check.type(x, "put 0 1;");
            Engine y = new Engine();
            rows(row(0, 0, 0, 0, 0, 0, 2, 2, 0, 0, 0, 0, 0, 0, 0), wholes(y));
            equal(Check.digestOf(y, 0), y.digest());
        });
    }

    private static long[] wholes(Engine x) {
        long[] row = new long[15];
        for (int what = 0; what < 15; what++) {
            row[what] = whole(x, what);
        }
        return row;
    }

    private static void addRingNumbers() {
        test("2: first: 0 is a cell, less is none", x -> {
            refused(x, NO_SUCH, () -> x.addRing(-1, 2, 0));
            refused(x, NO_SUCH, () -> x.addRing(LEAST, 2, 0));
            undoable(x, 0, () -> x.addRing(0, 2, 0));
            equal(0, x.ring(0, 0));
        });
        test("2: first: 47 is a cell, more is none", x -> {
            refused(x, NO_SUCH, () -> x.addRing(48, 2, 0));
            refused(x, NO_SUCH, () -> x.addRing(GREATEST, 2, 0));
            refused(x, RANGE, () -> x.addRing(47, 2, 0));
            undoable(x, 0, () -> x.addRing(46, 2, 0));
            equal(46, x.ring(0, 0));
        });
        test("2: length: 2 is long enough, 1 is not", x -> {
            refused(x, RANGE, () -> x.addRing(0, 1, 0));
            refused(x, RANGE, () -> x.addRing(0, 0, 0));
            refused(x, RANGE, () -> x.addRing(0, -1, 0));
            refused(x, RANGE, () -> x.addRing(0, LEAST, 0));
            undoable(x, 0, () -> x.addRing(0, 2, 0));
            equal(2, x.ring(0, 1));
        });
        test("2: length: 16 is not too long, 17 is", x -> {
            refused(x, RANGE, () -> x.addRing(0, 17, 0));
            refused(x, RANGE, () -> x.addRing(0, GREATEST, 0));
            refused(x, RANGE, () -> x.addRing(47, GREATEST, 0));
            undoable(x, 0, () -> x.addRing(0, 16, 0));
            equal(16, x.ring(0, 1));
        });
        test("2: patience: 0 is in range, -1 is not", x -> {
            refused(x, RANGE, () -> x.addRing(0, 2, -1));
            refused(x, RANGE, () -> x.addRing(0, 2, LEAST));
            undoable(x, 0, () -> x.addRing(0, 2, 0));
            equal(0, x.ring(0, 2));
        });
        test("2: patience: 50 is in range, 51 is not", x -> {
            refused(x, RANGE, () -> x.addRing(0, 2, 51));
            refused(x, RANGE, () -> x.addRing(0, 2, GREATEST));
            undoable(x, 0, () -> x.addRing(0, 2, 50));
            equal(50, x.ring(0, 2));
        });
        test("2: a ring does not strike at first", x -> {
            x.addRing(0, 2, 1);
            equal(0, x.ring(0, 3));
            refused(x, NOT_NOW, () -> x.strike(0, false));
        });
        test("2: a ring in the place of an undone one does not strike either", x -> {
            x.addRing(0, 2, 1);
            x.strike(0, true);
            x.undo();
            x.undo();
            undoable(x, 0, () -> x.addRing(0, 2, 1));
            equal(0, x.ring(0, 3));
        });
        test("2: a ring in the place of one that struck in an undone run does not strike either", x -> {
            Check.type(x, "ring 0 2 1;strike 0;");
            equal(2, x.runCommands());
            equal(0, x.undo());
            undoable(x, 0, () -> x.addRing(0, 2, 1));
            rows(row(0, 2, 1, 0, 0, 0, 0, 0), ringRow(x, 0));
        });
        test("2: the values of the cells stay", x -> {
            x.write(1, -999);
            undoable(x, 0, () -> x.addRing(0, 2, 0));
            rows(row(0, -999), cells(x, 0, 2));
        });
    }

    private static void addRingPlaces() {
        test("2: a long ring may end with the last cell, not behind it", x -> {
            refused(x, RANGE, () -> x.addRing(33, 16, 0));
            undoable(x, 0, () -> x.addRing(32, 16, 0));
        });
        test("2: a ring of any length may end with the last cell, not behind it", x -> {
            for (int length = 2; length <= 16; length++) {
                int own = length;
                Engine y = new Engine();
                refused(y, RANGE, () -> y.addRing(49 - own, own, 0));
                equal(0, y.addRing(48 - own, own, 0));
            }
        });
        test("2: the last cell of a ring is not the first of another", x -> {
            x.addRing(10, 4, 0);
            refused(x, NOT_NOW, () -> x.addRing(13, 2, 0));
            undoable(x, 1, () -> x.addRing(14, 2, 0));
        });
        test("2: the first cell of a ring is not the last of another", x -> {
            x.addRing(10, 4, 0);
            refused(x, NOT_NOW, () -> x.addRing(9, 2, 0));
            undoable(x, 1, () -> x.addRing(8, 2, 0));
        });
        test("2: no ring round another or inside it", x -> {
            x.addRing(10, 4, 0);
            refused(x, NOT_NOW, () -> x.addRing(9, 6, 0));
            refused(x, NOT_NOW, () -> x.addRing(11, 2, 0));
            refused(x, NOT_NOW, () -> x.addRing(10, 4, 0));
        });
        test("2: no cell in common with the latest ring either", x -> {
            for (int ring = 0; ring < 5; ring++) {
                x.addRing(2 * ring, 2, 0);
            }
            for (int cell = 0; cell < 10; cell++) {
                int first = cell;
                refused(x, NOT_NOW, () -> x.addRing(first, 2, 0));
            }
            undoable(x, 5, () -> x.addRing(10, 2, 0));
        });
        test("2: three rings of 16 take all cells", x -> {
            undoable(x, 0, () -> x.addRing(16, 16, 0));
            undoable(x, 1, () -> x.addRing(32, 16, 0));
            undoable(x, 2, () -> x.addRing(0, 16, 0));
            for (int cell = 0; cell < 47; cell++) {
                int first = cell;
                refused(x, NOT_NOW, () -> x.addRing(first, 2, 0));
            }
        });
        test("2: an undone ring leaves its cells and its number", x -> {
            x.addRing(0, 4, 0);
            x.addRing(4, 4, 0);
            x.undo();
            undoable(x, 1, () -> x.addRing(6, 2, 9));
            rows(row(6, 2, 9, 0, 0, 0, 0, 0), ringRow(x, 1));
        });
        test("2: six rings, numbered from 0, and no seventh", x -> {
            for (int ring = 0; ring < 6; ring++) {
                int number = ring;
                undoable(x, number, () -> x.addRing(2 * number, 2, number));
            }
            equal(6, whole(x, 0));
            refused(x, NOT_NOW, () -> x.addRing(20, 2, 0));
        });
    }

    private static void addRingExceptions() {
        test("2: no cell goes before length and patience", x -> {
            refused(x, NO_SUCH, () -> x.addRing(-1, 1, 51));
            refused(x, NO_SUCH, () -> x.addRing(48, 17, -1));
        });
        test("2: no cell goes before six rings", x -> {
            for (int ring = 0; ring < 6; ring++) {
                x.addRing(2 * ring, 2, 0);
            }
            refused(x, NO_SUCH, () -> x.addRing(-1, 2, 0));
            refused(x, NO_SUCH, () -> x.addRing(48, 2, 0));
        });
        test("2: out of range goes before six rings", x -> {
            for (int ring = 0; ring < 6; ring++) {
                x.addRing(2 * ring, 2, 0);
            }
            refused(x, RANGE, () -> x.addRing(20, 1, 0));
            refused(x, RANGE, () -> x.addRing(20, 17, 0));
            refused(x, RANGE, () -> x.addRing(20, 2, -1));
            refused(x, RANGE, () -> x.addRing(20, 2, 51));
            refused(x, RANGE, () -> x.addRing(47, 2, 0));
        });
        test("2: out of range goes before a cell in another ring", x -> {
            x.addRing(40, 8, 0);
            refused(x, RANGE, () -> x.addRing(40, 1, 0));
            refused(x, RANGE, () -> x.addRing(40, 17, 0));
            refused(x, RANGE, () -> x.addRing(40, 2, -1));
            refused(x, RANGE, () -> x.addRing(40, 2, 51));
            refused(x, RANGE, () -> x.addRing(47, 2, 0));
        });
        test("2: a refused ring leaves a full undo stack", x -> {
            fullStack(x);
            refused(x, NO_SUCH, () -> x.addRing(48, 2, 0));
            refused(x, RANGE, () -> x.addRing(0, 1, 0));
            undoable(x, 0, () -> x.addRing(0, 2, 0));
            refused(x, NOT_NOW, () -> x.addRing(0, 2, 0));
        });
    }

    private static void setPatience() {
        test("3: ring: 0 is one, -1 is none", x -> {
            twoRings(x);
            refused(x, NO_SUCH, () -> x.setPatience(-1, 1));
            refused(x, NO_SUCH, () -> x.setPatience(LEAST, 1));
            undoable(x, 0, () -> x.setPatience(0, 7));
            rows(row(7, 0), row(x.ring(0, 2), x.ring(1, 2)));
        });
        test("3: ring: the last is one, the next is none", x -> {
            twoRings(x);
            refused(x, NO_SUCH, () -> x.setPatience(2, 1));
            refused(x, NO_SUCH, () -> x.setPatience(GREATEST, 1));
            undoable(x, 0, () -> x.setPatience(1, 7));
            rows(row(0, 7), row(x.ring(0, 2), x.ring(1, 2)));
        });
        test("3: ring: the sixth is one, a seventh is none", x -> {
            for (int ring = 0; ring < 6; ring++) {
                x.addRing(2 * ring, 2, 3);
            }
            refused(x, NO_SUCH, () -> x.setPatience(6, 1));
            undoable(x, 3, () -> x.setPatience(5, 1));
        });
        test("3: patience: 0 is in range, -1 is not", x -> {
            x.addRing(0, 2, 3);
            refused(x, RANGE, () -> x.setPatience(0, -1));
            refused(x, RANGE, () -> x.setPatience(0, LEAST));
            undoable(x, 3, () -> x.setPatience(0, 0));
            equal(0, x.ring(0, 2));
        });
        test("3: patience: 50 is in range, 51 is not", x -> {
            x.addRing(0, 2, 3);
            refused(x, RANGE, () -> x.setPatience(0, 51));
            refused(x, RANGE, () -> x.setPatience(0, GREATEST));
            undoable(x, 3, () -> x.setPatience(0, 50));
            equal(50, x.ring(0, 2));
        });
        test("3: no such ring goes before patience", x -> {
            x.addRing(0, 2, 3);
            refused(x, NO_SUCH, () -> x.setPatience(1, 51));
            refused(x, NO_SUCH, () -> x.setPatience(-1, -1));
        });
        test("3: it returns the previous patience, also the same and the greatest", x -> {
            x.addRing(0, 2, 50);
            undoable(x, 50, () -> x.setPatience(0, 50));
            undoable(x, 50, () -> x.setPatience(0, 0));
            undoable(x, 0, () -> x.setPatience(0, 0));
        });
    }

    private static void set() {
        test("4: what: 0 and 1 are settings, -1 and 2 are none", x -> {
            for (int what : new int[] {-1, 2, LEAST, GREATEST}) {
                refused(x, RANGE, () -> x.set(what, 1));
                refused(x, RANGE, () -> x.set(what, 3));
            }
            undoable(x, 2, () -> x.set(0, 3));
            undoable(x, 2, () -> x.set(1, 4));
            rows(row(3, 4), row(whole(x, 6), whole(x, 7)));
        });
        test("4: speed: 1 is in range, 0 is not", x -> {
            refused(x, RANGE, () -> x.set(0, 0));
            refused(x, RANGE, () -> x.set(0, -1));
            refused(x, RANGE, () -> x.set(0, LEAST));
            undoable(x, 2, () -> x.set(0, 1));
            rows(row(1, 2), row(whole(x, 6), whole(x, 7)));
        });
        test("4: speed: 8 is in range, 9 is not", x -> {
            refused(x, RANGE, () -> x.set(0, 9));
            refused(x, RANGE, () -> x.set(0, GREATEST));
            undoable(x, 2, () -> x.set(0, 8));
            rows(row(8, 2), row(whole(x, 6), whole(x, 7)));
        });
        test("4: lanes: 1 is in range, 0 is not", x -> {
            refused(x, RANGE, () -> x.set(1, 0));
            refused(x, RANGE, () -> x.set(1, -1));
            refused(x, RANGE, () -> x.set(1, LEAST));
            undoable(x, 2, () -> x.set(1, 1));
            rows(row(2, 1), row(whole(x, 6), whole(x, 7)));
        });
        test("4: lanes: 4 is in range, 5 is not", x -> {
            refused(x, RANGE, () -> x.set(1, 5));
            refused(x, RANGE, () -> x.set(1, 8));
            refused(x, RANGE, () -> x.set(1, GREATEST));
            undoable(x, 2, () -> x.set(1, 4));
            rows(row(2, 4), row(whole(x, 6), whole(x, 7)));
        });
        test("4: it returns the previous value, also if nothing changes", x -> {
            undoable(x, 2, () -> x.set(0, 2));
            undoable(x, 2, () -> x.set(0, 8));
            undoable(x, 8, () -> x.set(0, 1));
            undoable(x, 2, () -> x.set(1, 2));
            undoable(x, 2, () -> x.set(1, 4));
            undoable(x, 4, () -> x.set(1, 1));
        });
    }

    private static void settingsAtWork() {
        test("4: speed 1: one value in a tick", x -> {
            twoRings(x);
            x.set(0, 1);
            x.move(0, 0, 1, 0, 2);
            undoable(x, 0, () -> x.pass(1));
            equal(1, x.moveOf(0, 6));
            undoable(x, 1, () -> x.pass(1));
        });
        test("4: speed 8: eight values in a tick, not a ninth", x -> {
            x.addRing(0, 16, 0);
            x.addRing(16, 16, 0);
            x.set(0, 8);
            x.move(0, 0, 1, 0, 8);
            x.move(0, 0, 1, 8, 8);
            undoable(x, 2, () -> x.pass(1));
            x.sign(1);
            x.sign(1);
            x.move(1, 0, 0, 0, 9);
            undoable(x, 0, () -> x.pass(1));
            equal(8, x.moveOf(2, 6));
            undoable(x, 1, () -> x.pass(1));
        });
        test("4: lanes 1: one move starts, not a second", x -> {
            twoRings(x);
            x.set(1, 1);
            x.move(0, 0, 1, 0, 1);
            x.move(0, 1, 1, 1, 1);
            undoable(x, 1, () -> x.pass(1));
            rows(row(COPIED, WAITING), states(x));
        });
        test("4: lanes 4: four moves start, not a fifth", x -> {
            x.addRing(0, 8, 0);
            x.addRing(8, 8, 0);
            x.set(1, 4);
            for (int move = 0; move < 5; move++) {
                x.move(0, move, 1, move, 1);
            }
            undoable(x, 4, () -> x.pass(1));
            rows(row(COPIED, COPIED, COPIED, COPIED, WAITING), states(x));
        });
        test("4: a new speed holds for a copying move", x -> {
            twoRings(x);
            x.set(0, 1);
            x.move(0, 0, 1, 0, 4);
            x.pass(1);
            x.set(0, 3);
            undoable(x, 1, () -> x.pass(1));
            rows(row(1, 2, 3, 4), cells(x, 4, 4));
        });
        test("4: fewer lanes than copying moves: those go on, and none starts", x -> {
            twoRings(x);
            x.set(0, 1);
            x.move(0, 0, 1, 0, 2);
            x.move(0, 2, 1, 2, 2);
            x.move(0, 0, 0, 0, 1);
            x.pass(1);
            x.set(1, 1);
            rows(row(COPYING, COPYING, WAITING), states(x));
            undoable(x, 2, () -> x.pass(1));
        });
    }

    private static void writeNumbers() {
        test("5: cell: 0 is one, -1 is none", x -> {
            refused(x, NO_SUCH, () -> x.write(-1, 1));
            refused(x, NO_SUCH, () -> x.write(LEAST, 1));
            undoable(x, 0, () -> x.write(0, 1));
            equal(1, x.cell(0));
        });
        test("5: cell: 47 is one, 48 is none", x -> {
            refused(x, NO_SUCH, () -> x.write(48, 1));
            refused(x, NO_SUCH, () -> x.write(64, 1));
            refused(x, NO_SUCH, () -> x.write(GREATEST, 1));
            undoable(x, 0, () -> x.write(47, 1));
            equal(1, x.cell(47));
        });
        test("5: value: -999 is in range, -1000 is not", x -> {
            refused(x, RANGE, () -> x.write(0, -1000));
            refused(x, RANGE, () -> x.write(0, LEAST));
            undoable(x, 0, () -> x.write(0, -999));
            equal(-999, x.cell(0));
        });
        test("5: value: 999 is in range, 1000 is not", x -> {
            refused(x, RANGE, () -> x.write(0, 1000));
            refused(x, RANGE, () -> x.write(0, GREATEST));
            undoable(x, 0, () -> x.write(0, 999));
            equal(999, x.cell(0));
        });
        test("5: it returns the previous value, from the least to the greatest", x -> {
            undoable(x, 0, () -> x.write(5, -999));
            undoable(x, -999, () -> x.write(5, 999));
            undoable(x, 999, () -> x.write(5, 999));
            undoable(x, 999, () -> x.write(5, 0));
        });
        test("5: no such cell goes before value", x -> {
            refused(x, NO_SUCH, () -> x.write(-1, 1000));
            refused(x, NO_SUCH, () -> x.write(48, -1000));
        });
        test("5: value goes before a cell that cannot be written", x -> {
            twoRings(x);
            x.move(0, 0, 1, 0, 1);
            refused(x, RANGE, () -> x.write(0, 1000));
            refused(x, RANGE, () -> x.write(4, -1000));
            refused(x, NOT_NOW, () -> x.write(0, 999));
            refused(x, NOT_NOW, () -> x.write(4, -999));
        });
    }

    private static void writeReasons() {
        test("5: a cell that a waiting move reads, and those beside it", x -> {
            twoRings(x);
            x.move(0, 1, 1, 0, 2);
            refused(x, NOT_NOW, () -> x.write(1, 0));
            refused(x, NOT_NOW, () -> x.write(2, 0));
            undoable(x, 1, () -> x.write(0, -1));
            undoable(x, 4, () -> x.write(3, -1));
        });
        test("5: a cell that a waiting move writes, and those beside it", x -> {
            twoRings(x);
            x.move(0, 0, 1, 1, 2);
            refused(x, NOT_NOW, () -> x.write(5, 0));
            refused(x, NOT_NOW, () -> x.write(6, 0));
            undoable(x, 5, () -> x.write(4, -1));
            undoable(x, 8, () -> x.write(7, -1));
        });
        test("5: a held cell, from the start until it is signed", x -> {
            twoRings(x);
            x.move(0, 1, 1, 0, 2);
            x.pass(1);
            equal(COPIED, x.moveOf(0, 5));
            refused(x, NOT_NOW, () -> x.write(1, 0));
            refused(x, NOT_NOW, () -> x.write(2, 0));
            undoable(x, 4, () -> x.write(3, -1));
            x.sign(1);
            undoable(x, 2, () -> x.write(1, -1));
            undoable(x, 3, () -> x.write(2, -1));
        });
        test("5: a target cell of a copying move, until it is copied", x -> {
            twoRings(x);
            x.move(0, 0, 1, 0, 3);
            x.pass(1);
            equal(COPYING, x.moveOf(0, 5));
            refused(x, NOT_NOW, () -> x.write(4, 0));
            refused(x, NOT_NOW, () -> x.write(6, 0));
            undoable(x, 8, () -> x.write(7, -1));
            x.pass(1);
            equal(COPIED, x.moveOf(0, 5));
            undoable(x, 1, () -> x.write(4, -1));
            undoable(x, 3, () -> x.write(6, -1));
        });
        test("5: the last cell, which a move round the end of its ring reads", x -> {
            x.addRing(44, 4, 0);
            x.addRing(0, 4, 0);
            x.move(0, 3, 1, 3, 2);
            refused(x, NOT_NOW, () -> x.write(47, 1));
            refused(x, NOT_NOW, () -> x.write(44, 1));
            refused(x, NOT_NOW, () -> x.write(0, 1));
            refused(x, NOT_NOW, () -> x.write(3, 1));
            undoable(x, 0, () -> x.write(46, 1));
            undoable(x, 0, () -> x.write(1, 1));
        });
        test("5: a cell in no ring can be written at any time", x -> {
            twoRings(x);
            x.move(0, 0, 1, 0, 4);
            undoable(x, 0, () -> x.write(8, 1));
            x.pass(1);
            undoable(x, 1, () -> x.write(8, 2));
        });
    }

    private static void cell() {
        test("11: cell: 0 is one, -1 is none", x -> {
            x.write(0, -999);
            answers(x, -999, () -> x.cell(0));
            refused(x, NO_SUCH, () -> x.cell(-1));
            refused(x, NO_SUCH, () -> x.cell(LEAST));
        });
        test("11: cell: 47 is one, 48 is none", x -> {
            x.write(47, 999);
            answers(x, 999, () -> x.cell(47));
            refused(x, NO_SUCH, () -> x.cell(48));
            refused(x, NO_SUCH, () -> x.cell(GREATEST));
        });
    }

    private static void ringNumbers() {
        test("12: ring: 0 is one, -1 is none", x -> {
            twoRings(x);
            answers(x, 0, () -> x.ring(0, 0));
            refused(x, NO_SUCH, () -> x.ring(-1, 0));
            refused(x, NO_SUCH, () -> x.ring(LEAST, 0));
        });
        test("12: ring: the last is one, the next is none", x -> {
            twoRings(x);
            answers(x, 4, () -> x.ring(1, 0));
            refused(x, NO_SUCH, () -> x.ring(2, 0));
            refused(x, NO_SUCH, () -> x.ring(GREATEST, 0));
        });
        test("12: ring: the sixth is one, a seventh is none", x -> {
            for (int ring = 0; ring < 6; ring++) {
                x.addRing(2 * ring, 2, 0);
            }
            answers(x, 10, () -> x.ring(5, 0));
            refused(x, NO_SUCH, () -> x.ring(6, 0));
        });
        test("12: ring: one that is undone is none", x -> {
            twoRings(x);
            x.undo();
            refused(x, NO_SUCH, () -> x.ring(1, 0));
        });
        test("12: what: 0 is in range, -1 is not", x -> {
            twoRings(x);
            answers(x, 4, () -> x.ring(1, 0));
            refused(x, RANGE, () -> x.ring(1, -1));
            refused(x, RANGE, () -> x.ring(1, LEAST));
        });
        test("12: what: 7 is in range, 8 is not", x -> {
            twoRings(x);
            answers(x, 26, () -> x.ring(1, 7));
            refused(x, RANGE, () -> x.ring(1, 8));
            refused(x, RANGE, () -> x.ring(1, GREATEST));
        });
        test("12: no such ring goes before what", x -> {
            twoRings(x);
            refused(x, NO_SUCH, () -> x.ring(2, 8));
            refused(x, NO_SUCH, () -> x.ring(-1, -1));
        });
    }

    private static void ringValues() {
        test("12: moves from it that are not signed: up to the signature", x -> {
            twoRings(x);
            x.move(0, 0, 1, 0, 3);
            answers(x, 1, () -> x.ring(0, 4));
            x.pass(1);
            answers(x, 1, () -> x.ring(0, 4));
            x.pass(1);
            answers(x, 1, () -> x.ring(0, 4));
            answers(x, 0, () -> x.ring(1, 4));
            x.sign(1);
            answers(x, 0, () -> x.ring(0, 4));
        });
        test("12: moves to it that are not signed: up to the signature", x -> {
            twoRings(x);
            x.move(0, 0, 1, 0, 3);
            answers(x, 1, () -> x.ring(1, 5));
            x.pass(1);
            answers(x, 1, () -> x.ring(1, 5));
            x.pass(1);
            answers(x, 1, () -> x.ring(1, 5));
            answers(x, 0, () -> x.ring(0, 5));
            x.sign(1);
            answers(x, 0, () -> x.ring(1, 5));
        });
        test("12: copied moves to it that are not signed: from the copy to the signature", x -> {
            twoRings(x);
            x.move(0, 0, 1, 0, 3);
            answers(x, 0, () -> x.ring(1, 6));
            x.pass(1);
            answers(x, 0, () -> x.ring(1, 6));
            x.pass(1);
            answers(x, 1, () -> x.ring(1, 6));
            answers(x, 0, () -> x.ring(0, 6));
            x.sign(1);
            answers(x, 0, () -> x.ring(1, 6));
        });
        test("12: a move from a ring to itself is both from it and to it", x -> {
            twoRings(x);
            x.move(0, 0, 0, 1, 1);
            x.pass(1);
            rows(row(0, 4, 0, 0, 1, 1, 1, 9), ringRow(x, 0));
        });
        test("12: all 24 moves are from it and to it", x -> {
            twoRings(x);
            for (int move = 0; move < 24; move++) {
                x.move(1, move, 1, move, 1);
            }
            rows(row(4, 4, 0, 0, 24, 24, 0, 26), ringRow(x, 1));
            rows(row(0, 4, 0, 0, 0, 0, 0, 10), ringRow(x, 0));
        });
        test("12: sum of the values of its cells: the last one too, the ones beside it not", x -> {
            x.addRing(16, 16, 0);
            for (int cell = 15; cell <= 32; cell++) {
                x.write(cell, 999);
            }
            answers(x, 16 * 999, () -> x.ring(0, 7));
            x.write(16, -999);
            answers(x, 14 * 999, () -> x.ring(0, 7));
            x.write(31, -999);
            answers(x, 12 * 999, () -> x.ring(0, 7));
        });
        test("12: sum of the values of a ring in the last cells", x -> {
            x.addRing(46, 2, 0);
            x.write(47, -999);
            x.write(46, -999);
            answers(x, -1998, () -> x.ring(0, 7));
        });
        test("12: 1 if it strikes or 0 if not", x -> {
            twoRings(x);
            answers(x, 0, () -> x.ring(1, 3));
            x.strike(1, true);
            answers(x, 1, () -> x.ring(1, 3));
            answers(x, 0, () -> x.ring(0, 3));
            x.strike(1, false);
            answers(x, 0, () -> x.ring(1, 3));
        });
    }
}
