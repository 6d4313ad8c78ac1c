/** The boundary cases of promise 9 and of the ticks that pass by it, step by step. */
final class TickBoundaries extends Boundary {
    private TickBoundaries() {
    }

    static void all() {
        passNumbers();
        passAnswers();
        patience();
        patientSignatures();
        starts();
        startOrder();
        copies();
        takenValues();
    }

    private static void passNumbers() {
        test("9: ticks: 1 is in range, 0 is not", x -> {
            refused(x, RANGE, () -> x.pass(0));
            refused(x, RANGE, () -> x.pass(-1));
            refused(x, RANGE, () -> x.pass(LEAST));
            undoable(x, 0, () -> x.pass(1));
            equal(1, whole(x, 8));
        });
        test("9: ticks: 50 is in range, 51 is not", x -> {
            refused(x, RANGE, () -> x.pass(51));
            refused(x, RANGE, () -> x.pass(GREATEST));
            undoable(x, 0, () -> x.pass(50));
            equal(50, whole(x, 8));
        });
        test("9: the tick 9999 can come, 10000 can't: one tick", x -> {
            passTo(x, 9998);
            undoable(x, 0, () -> x.pass(1));
            equal(9999, whole(x, 8));
            refused(x, NOT_NOW, () -> x.pass(1));
        });
        test("9: the tick 9999 can come, 10000 can't: fifty ticks", x -> {
            passTo(x, 9949);
            undoable(x, 0, () -> x.pass(50));
            equal(9999, whole(x, 8));
            refused(x, NOT_NOW, () -> x.pass(50));
        });
        test("9: the tick 10000 can't come by many ticks, but 9999 by fewer", x -> {
            passTo(x, 9950);
            refused(x, NOT_NOW, () -> x.pass(50));
            undoable(x, 0, () -> x.pass(49));
            equal(9999, whole(x, 8));
        });
        test("9: out of range goes before a tick that is too great", x -> {
            passTo(x, 9999);
            refused(x, RANGE, () -> x.pass(0));
            refused(x, RANGE, () -> x.pass(51));
            refused(x, RANGE, () -> x.pass(GREATEST));
            refused(x, NOT_NOW, () -> x.pass(1));
            refused(x, NOT_NOW, () -> x.pass(50));
        });
        test("9: what a refused pass leaves: moves go on from where they were", x -> {
            twoRings(x);
            passTo(x, 9998);
            x.move(0, 0, 1, 0, 3);
            x.pass(1);
            refused(x, NOT_NOW, () -> x.pass(1));
            rows(row(3, 1), row(x.hostage(0, 0), x.copiedIn(0)));
        });
    }

    private static void passAnswers() {
        test("9: it returns the moves that are copied in these ticks: none before them", x -> {
            twoRings(x);
            x.move(0, 0, 1, 0, 1);
            undoable(x, 1, () -> x.pass(1));
            undoable(x, 0, () -> x.pass(1));
        });
        test("9: it returns the moves that are copied in these ticks: up to the last of them", x -> {
            twoRings(x);
            x.move(0, 0, 1, 0, 3);
            undoable(x, 0, () -> x.pass(1));
            x.undo();
            undoable(x, 1, () -> x.pass(2));
        });
        test("9: it returns the moves that are copied in these ticks: also if signed in them", x -> {
            twoRings(x);
            x.setPatience(1, 1);
            x.move(0, 0, 1, 0, 1);
            x.move(0, 1, 1, 1, 1);
            undoable(x, 2, () -> x.pass(50));
            rows(row(SIGNED, SIGNED), states(x));
        });
        test("9: all 24 moves can be copied in 50 ticks", x -> {
            twoRings(x);
            for (int move = 0; move < 24; move++) {
                x.move(0, 0, 1, 0, 1);
            }
            undoable(x, 24, () -> x.pass(50));
            rows(row(23, 24), row(x.moveOf(23, 8), whole(x, 10)));
        });
        test("9: many ticks do what as many single ones do", x -> {
            twoRings(x);
            x.setPatience(0, 2);
            x.setPatience(1, 3);
            Engine y = new Engine();
            twoRings(y);
            y.setPatience(0, 2);
            y.setPatience(1, 3);
            for (int move = 0; move < 8; move++) {
                x.move(move % 2, move, (move + 1) % 2, 2 * move, 1 + move % 4);
                y.move(move % 2, move, (move + 1) % 2, 2 * move, 1 + move % 4);
            }
            x.pass(40);
            for (int tick = 0; tick < 40; tick++) {
                y.pass(1);
            }
            rows(Check.view(x), Check.view(y));
        });
    }

    /** A move of one cell from ring 0 to ring 1, copied in tick 0. */
    private static void copiedInTickZero(Engine x, int patience) {
        twoRings(x);
        x.setPatience(1, patience);
        x.move(0, 0, 1, 0, 1);
        x.pass(1);
        rows(row(COPIED, 0), row(x.moveOf(0, 5), x.moveOf(0, 8)));
    }

    private static void patience() {
        test("9: patience 0: a ring never signs by itself", x -> {
            copiedInTickZero(x, 0);
            passTo(x, 2000);
            equal(COPIED, x.moveOf(0, 5));
        });
        test("9: patience 1: not in the tick of the copy, which is 0 ticks ago in it, but in the next", x -> {
            copiedInTickZero(x, 1);
            undoable(x, 0, () -> x.pass(1));
            rows(row(SIGNED, 1), row(x.moveOf(0, 5), x.moveOf(0, 9)));
        });
        test("9: patience 2: not one tick ago, but two", x -> {
            copiedInTickZero(x, 2);
            undoable(x, 0, () -> x.pass(1));
            equal(COPIED, x.moveOf(0, 5));
            undoable(x, 0, () -> x.pass(1));
            rows(row(SIGNED, 2), row(x.moveOf(0, 5), x.moveOf(0, 9)));
        });
        test("9: patience 50: not 49 ticks ago, but 50", x -> {
            copiedInTickZero(x, 50);
            undoable(x, 0, () -> x.pass(49));
            equal(COPIED, x.moveOf(0, 5));
            undoable(x, 0, () -> x.pass(1));
            rows(row(SIGNED, 50), row(x.moveOf(0, 5), x.moveOf(0, 9)));
        });
        test("9: ticks ago are counted from the copy, not from the start", x -> {
            twoRings(x);
            x.setPatience(1, 2);
            x.set(0, 1);
            x.move(0, 0, 1, 0, 4);
            undoable(x, 1, () -> x.pass(5));
            rows(row(0, 0, 1, 0, 4, COPIED, 4, 0, 3, NONE), moveRow(x, 0));
            undoable(x, 0, () -> x.pass(1));
            rows(row(0, 0, 1, 0, 4, SIGNED, 4, 0, 3, 5), moveRow(x, 0));
        });
        test("9: its patience or more ticks ago: a patience that is set when less have passed", x -> {
            copiedInTickZero(x, 0);
            passTo(x, 4);
            x.setPatience(1, 5);
            undoable(x, 0, () -> x.pass(1));
            equal(COPIED, x.moveOf(0, 5));
            undoable(x, 0, () -> x.pass(1));
            equal(5, x.moveOf(0, 9));
        });
        test("9: its patience or more ticks ago: a patience that is set when more have passed", x -> {
            copiedInTickZero(x, 0);
            passTo(x, 60);
            x.setPatience(1, 5);
            equal(COPIED, x.moveOf(0, 5));
            undoable(x, 0, () -> x.pass(1));
            equal(60, x.moveOf(0, 9));
        });
        test("9: a patience that is set to 0 in time keeps the ring from signing", x -> {
            copiedInTickZero(x, 1);
            x.setPatience(1, 0);
            undoable(x, 0, () -> x.pass(50));
            equal(COPIED, x.moveOf(0, 5));
        });
        test("9: a patience of the source ring does not sign", x -> {
            twoRings(x);
            x.setPatience(0, 1);
            x.move(0, 0, 1, 0, 1);
            x.pass(50);
            equal(COPIED, x.moveOf(0, 5));
        });
    }

    private static void patientSignatures() {
        test("9: a ring signs all moves to it that are due, and none that is not", x -> {
            twoRings(x);
            x.setPatience(1, 3);
            for (int move = 0; move < 4; move++) {
                x.move(0, move, 1, move, 1);
            }
            x.pass(3);
            rows(row(0, 0, 1, 1), ofMoves(x, 8));
            undoable(x, 0, () -> x.pass(1));
            rows(row(SIGNED, SIGNED, COPIED, COPIED), states(x));
            undoable(x, 0, () -> x.pass(1));
            rows(row(3, 3, 4, 4), ofMoves(x, 9));
            equal(4, whole(x, 11));
        });
        test("9: each ring signs with its own patience, the first and the sixth too", x -> {
            for (int ring = 0; ring < 6; ring++) {
                x.addRing(2 * ring, 2, 6 - ring);
            }
            x.set(1, 4);
            for (int ring = 0; ring < 6; ring++) {
                x.move(ring, 0, ring, 1, 1);
            }
            x.pass(10);
            rows(row(0, 0, 0, 0, 1, 1), ofMoves(x, 8));
            rows(row(6, 5, 4, 3, 3, 2), ofMoves(x, 9));
        });
        test("9: a strike keeps one ring from signing, not another", x -> {
            twoRings(x);
            x.setPatience(0, 1);
            x.setPatience(1, 1);
            x.move(0, 0, 1, 0, 1);
            x.move(1, 3, 0, 3, 1);
            x.pass(1);
            x.strike(0, true);
            x.pass(1);
            rows(row(SIGNED, COPIED), states(x));
        });
        test("9: waiting and copying moves are not signed, however patient the ring was", x -> {
            twoRings(x);
            x.setPatience(1, 1);
            x.set(0, 1);
            x.set(1, 1);
            x.move(0, 0, 1, 0, 4);
            x.move(0, 0, 1, 0, 1);
            x.pass(3);
            rows(row(COPYING, WAITING), states(x));
        });
        test("9: rings sign in the tick before moves start: a move starts in the tick of the signature", x -> {
            copiedInTickZero(x, 3);
            x.move(1, 1, 0, 0, 1);
            undoable(x, 0, () -> x.pass(2));
            equal(WAITING, x.moveOf(1, 5));
            undoable(x, 1, () -> x.pass(1));
            rows(row(3, 3), row(x.moveOf(0, 9), x.moveOf(1, 7)));
        });
    }

    private static void starts() {
        test("9: a move starts if fewer moves than the lanes are copying, not if as many are", x -> {
            twoRings(x);
            x.set(0, 1);
            x.set(1, 1);
            x.move(0, 0, 1, 0, 2);
            x.move(0, 2, 1, 2, 1);
            x.pass(1);
            rows(row(COPYING, WAITING), states(x));
            undoable(x, 1, () -> x.pass(1));
            rows(row(COPIED, WAITING), states(x));
            undoable(x, 1, () -> x.pass(1));
            rows(row(0, 2), ofMoves(x, 7));
        });
        test("9: those that started in this tick are counted, and those from before too", x -> {
            x.addRing(0, 8, 0);
            x.addRing(8, 8, 0);
            x.set(0, 1);
            x.set(1, 3);
            x.move(0, 0, 1, 0, 2);
            x.pass(1);
            x.move(0, 2, 1, 2, 1);
            x.move(0, 3, 1, 3, 1);
            x.move(0, 4, 1, 4, 1);
            undoable(x, 3, () -> x.pass(1));
            rows(row(0, 1, 1, NONE), ofMoves(x, 7));
        });
        test("9: copied moves take no lane", x -> {
            twoRings(x);
            x.set(1, 1);
            for (int move = 0; move < 4; move++) {
                x.move(0, move, 1, move, 1);
            }
            undoable(x, 4, () -> x.pass(4));
            rows(row(0, 1, 2, 3), ofMoves(x, 7));
        });
        test("9: a move starts only if it waits for none: in the tick after the copy, not in it", x -> {
            twoRings(x);
            x.move(0, 0, 1, 0, 1);
            x.move(1, 0, 1, 1, 1);
            undoable(x, 1, () -> x.pass(1));
            rows(row(COPIED, WAITING), states(x));
            undoable(x, 1, () -> x.pass(1));
            rows(row(0, 1), ofMoves(x, 7));
        });
        test("9: a move that waits for a hostage starts in the tick after the signature by hand", x -> {
            twoRings(x);
            x.move(0, 0, 1, 0, 1);
            x.move(1, 3, 0, 0, 1);
            undoable(x, 1, () -> x.pass(50));
            equal(WAITING, x.moveOf(1, 5));
            x.sign(1);
            equal(WAITING, x.moveOf(1, 5));
            undoable(x, 1, () -> x.pass(1));
            equal(50, x.moveOf(1, 7));
        });
    }

    private static void startOrder() {
        test("9: moves start in ascending order", x -> {
            twoRings(x);
            x.set(1, 1);
            x.move(0, 3, 1, 3, 1);
            x.move(0, 0, 1, 0, 1);
            undoable(x, 1, () -> x.pass(1));
            rows(row(COPIED, WAITING), states(x));
        });
        test("9: a move that waits takes no lane from one behind it", x -> {
            twoRings(x);
            x.move(0, 0, 1, 0, 1);
            x.move(1, 0, 1, 1, 1);
            x.move(0, 2, 1, 2, 1);
            undoable(x, 2, () -> x.pass(1));
            rows(row(COPIED, WAITING, COPIED), states(x));
        });
        test("9: a move that started in this tick is waited for in this tick", x -> {
            twoRings(x);
            x.set(1, 4);
            x.move(0, 0, 1, 0, 1);
            x.move(0, 1, 1, 0, 1);
            x.move(0, 2, 1, 0, 1);
            undoable(x, 1, () -> x.pass(1));
            undoable(x, 1, () -> x.pass(1));
            undoable(x, 1, () -> x.pass(1));
            rows(row(0, 1, 2), ofMoves(x, 7));
        });
        test("9: the last of 24 moves starts if it is the only one that can", x -> {
            twoRings(x);
            x.move(0, 0, 0, 1, 1);
            x.pass(1);
            for (int move = 1; move < 23; move++) {
                x.move(1, 0, 0, 0, 1);
            }
            x.move(1, 1, 1, 2, 1);
            undoable(x, 1, () -> x.pass(1));
            equal(COPIED, x.moveOf(23, 5));
            equal(22, whole(x, 2));
        });
    }

    private static void copies() {
        test("9: as many values as the speed: copied in the tick of the start", x -> {
            twoRings(x);
            x.set(0, 3);
            x.move(0, 0, 1, 0, 3);
            undoable(x, 1, () -> x.pass(1));
            rows(row(0, 0), row(x.moveOf(0, 7), x.moveOf(0, 8)));
        });
        test("9: one value more than the speed: copied in the next tick", x -> {
            twoRings(x);
            x.set(0, 3);
            x.move(0, 0, 1, 0, 4);
            undoable(x, 0, () -> x.pass(1));
            rows(row(1, 2, 3, 8), cells(x, 4, 4));
            undoable(x, 1, () -> x.pass(1));
            rows(row(0, 1), row(x.moveOf(0, 7), x.moveOf(0, 8)));
            rows(row(1, 2, 3, 4), cells(x, 4, 4));
        });
        test("9: fewer values than the speed: no cell behind them is written", x -> {
            twoRings(x);
            x.set(0, 8);
            x.move(0, 0, 1, 0, 1);
            undoable(x, 1, () -> x.pass(1));
            rows(row(1, 6, 7, 8), cells(x, 4, 4));
        });
        test("9: sixteen values at speed 1 take sixteen ticks, at speed 8 two", x -> {
            x.addRing(0, 16, 0);
            x.addRing(16, 16, 0);
            x.set(0, 1);
            x.move(0, 0, 1, 0, 16);
            undoable(x, 0, () -> x.pass(15));
            undoable(x, 1, () -> x.pass(1));
            x.sign(1);
            x.set(0, 8);
            x.move(1, 0, 0, 0, 16);
            undoable(x, 0, () -> x.pass(1));
            undoable(x, 1, () -> x.pass(1));
        });
        test("9: each copying move writes as many as the speed, not all together", x -> {
            twoRings(x);
            x.move(0, 0, 1, 0, 2);
            x.move(0, 2, 1, 2, 2);
            undoable(x, 2, () -> x.pass(1));
            rows(row(1, 2, 3, 4), cells(x, 4, 4));
        });
        test("9: waiting, copied and signed moves write nothing", x -> {
            twoRings(x);
            x.setPatience(1, 2);
            x.move(0, 0, 1, 0, 1);
            x.pass(1);
            x.write(4, -1);
            undoable(x, 0, () -> x.pass(1));
            equal(-1, x.cell(4));
            undoable(x, 0, () -> x.pass(5));
            equal(SIGNED, x.moveOf(0, 5));
            equal(-1, x.cell(4));
        });
        test("9: then the tick increases by 1: a move that starts in the next tick has its number", x -> {
            twoRings(x);
            x.pass(7);
            x.move(0, 0, 1, 0, 1);
            x.pass(1);
            rows(row(7, 7, 8), row(x.moveOf(0, 7), x.moveOf(0, 8), whole(x, 8)));
        });
    }

    private static void takenValues() {
        test("9: a move writes what it took at its start: a ring turned by one place", x -> {
            twoRings(x);
            x.set(0, 1);
            x.move(0, 0, 0, 1, 4);
            x.pass(1);
            rows(row(1, 1, 3, 4), cells(x, 0, 4));
            x.pass(3);
            rows(row(4, 1, 2, 3), cells(x, 0, 4));
        });
        test("9: a move takes what stands there at its start, not when it was told", x -> {
            twoRings(x);
            x.move(0, 0, 1, 0, 2);
            x.move(1, 0, 0, 2, 2);
            undoable(x, 1, () -> x.pass(1));
            undoable(x, 1, () -> x.pass(1));
            rows(row(1, 2, 1, 2), cells(x, 0, 4));
        });
        test("9: two moves that read the same cell both get it", x -> {
            twoRings(x);
            x.move(0, 0, 1, 0, 1);
            x.move(0, 0, 1, 3, 1);
            undoable(x, 2, () -> x.pass(1));
            rows(row(1, 6, 7, 1), cells(x, 4, 4));
        });
        test("9: two moves to the same cell leave what the later one wrote", x -> {
            twoRings(x);
            x.move(0, 0, 1, 0, 1);
            x.move(0, 1, 1, 0, 1);
            undoable(x, 1, () -> x.pass(1));
            equal(1, x.cell(4));
            undoable(x, 1, () -> x.pass(1));
            equal(2, x.cell(4));
        });
        test("9: the least and the greatest value are copied", x -> {
            x.addRing(0, 2, 0);
            x.addRing(46, 2, 0);
            x.write(0, -999);
            x.write(1, 999);
            x.move(0, 0, 1, 1, 2);
            undoable(x, 1, () -> x.pass(1));
            rows(row(999, -999), cells(x, 46, 2));
        });
    }
}
