/** The boundary cases of the promises 17 to 23: values of the whole, and the questions what if. */
final class QuestionBoundaries extends Boundary {
    private QuestionBoundaries() {
    }

    static void all() {
        wholeNumbers();
        wholeMoves();
        wholeSums();
        reasonNumbers();
        reasons();
        waitsForNumbers();
        waitsForHostages();
        waitsForWriters();
        depth();
        finalValueNumbers();
        finalValues();
        copiedInNumbers();
        copiedInBounds();
        stuckOrNot();
        stuckBounds();
    }

    private static void wholeNumbers() {
        test("17: what: 0 is in range, -1 is not", x -> {
            twoRings(x);
            answers(x, 2, () -> x.whole(0));
            refused(x, RANGE, () -> x.whole(-1));
            refused(x, RANGE, () -> x.whole(LEAST));
        });
        test("17: what: 14 is in range, 15 is not", x -> {
            x.type('a');
            answers(x, 1, () -> x.whole(14));
            refused(x, RANGE, () -> x.whole(15));
            refused(x, RANGE, () -> x.whole(GREATEST));
        });
        test("17: 0 rings: up to six", x -> {
            for (int ring = 0; ring < 6; ring++) {
                equal(ring, x.whole(0));
                x.addRing(2 * ring, 2, 0);
            }
            answers(x, 6, () -> x.whole(0));
        });
        test("17: 6 and 7: the settings at their bounds", x -> {
            x.set(0, 8);
            x.set(1, 4);
            rows(row(8, 4), row(x.whole(6), x.whole(7)));
            x.set(0, 1);
            x.set(1, 1);
            rows(row(1, 1), row(x.whole(6), x.whole(7)));
        });
        test("17: 8 tick: 0 and 9999", x -> {
            answers(x, 0, () -> x.whole(8));
            passTo(x, 9999);
            answers(x, 9999, () -> x.whole(8));
        });
        test("17: 14 length of the command text: 0 and 150", x -> {
            answers(x, 0, () -> x.whole(14));
            Check.type(x, "x".repeat(150));
            answers(x, 150, () -> x.whole(14));
        });
    }

    private static void wholeMoves() {
        test("17: 1 to 5: moves in all and in each state, one after another", x -> {
            twoRings(x);
            x.move(0, 0, 1, 0, 3);
            rows(row(1, 1, 0, 0, 0), row(x.whole(1), x.whole(2), x.whole(3), x.whole(4), x.whole(5)));
            x.pass(1);
            rows(row(1, 0, 1, 0, 0), row(x.whole(1), x.whole(2), x.whole(3), x.whole(4), x.whole(5)));
            x.pass(1);
            rows(row(1, 0, 0, 1, 0), row(x.whole(1), x.whole(2), x.whole(3), x.whole(4), x.whole(5)));
            x.sign(1);
            rows(row(1, 0, 0, 0, 1), row(x.whole(1), x.whole(2), x.whole(3), x.whole(4), x.whole(5)));
            x.sweep();
            rows(row(0, 0, 0, 0, 0), row(x.whole(1), x.whole(2), x.whole(3), x.whole(4), x.whole(5)));
        });
        test("17: 1 moves: up to 24", x -> {
            twoRings(x);
            for (int move = 0; move < 24; move++) {
                x.move(0, 0, 1, 0, 1);
            }
            rows(row(24, 24), row(x.whole(1), x.whole(2)));
        });
        test("17: 10 moves that were copied, in all: signed and swept ones too", x -> {
            twoRings(x);
            x.move(0, 0, 1, 0, 3);
            answers(x, 0, () -> x.whole(10));
            x.pass(1);
            answers(x, 0, () -> x.whole(10));
            x.pass(1);
            answers(x, 1, () -> x.whole(10));
            x.sign(1);
            answers(x, 1, () -> x.whole(10));
            x.sweep();
            answers(x, 1, () -> x.whole(10));
            x.move(0, 0, 1, 0, 1);
            x.pass(1);
            answers(x, 2, () -> x.whole(10));
        });
        test("17: 11 moves that were signed, in all: by hand, by themselves, and swept ones", x -> {
            twoRings(x);
            x.move(0, 0, 1, 0, 1);
            x.move(0, 1, 1, 1, 1);
            x.pass(1);
            answers(x, 0, () -> x.whole(11));
            x.sign(1);
            answers(x, 1, () -> x.whole(11));
            x.setPatience(1, 1);
            x.pass(1);
            answers(x, 2, () -> x.whole(11));
            x.sweep();
            answers(x, 2, () -> x.whole(11));
        });
        test("17: 12 moves that were swept, in all: no signed one before the sweep", x -> {
            twoRings(x);
            x.move(0, 0, 1, 0, 1);
            x.pass(1);
            x.sign(1);
            answers(x, 0, () -> x.whole(12));
            x.sweep();
            answers(x, 1, () -> x.whole(12));
            x.sweep();
            answers(x, 1, () -> x.whole(12));
        });
        test("17: more than 24 moves in all", x -> {
            twoRings(x);
            x.setPatience(1, 1);
            for (int round = 0; round < 2; round++) {
                for (int move = 0; move < 24; move++) {
                    x.move(0, 0, 1, 0, 1);
                }
                x.pass(50);
                x.sweep();
            }
            rows(row(48, 48, 48), row(x.whole(10), x.whole(11), x.whole(12)));
        });
    }

    private static void wholeSums() {
        test("17: 9 cells that are held: each counted once, none and all", x -> {
            x.addRing(0, 16, 0);
            x.addRing(16, 16, 0);
            x.addRing(32, 16, 0);
            x.set(0, 8);
            x.set(1, 4);
            x.move(0, 0, 0, 0, 16);
            x.move(1, 0, 1, 0, 16);
            answers(x, 0, () -> x.whole(9));
            x.pass(1);
            answers(x, 32, () -> x.whole(9));
            x.move(2, 0, 2, 0, 15);
            x.move(2, 0, 2, 15, 1);
            x.move(2, 1, 2, 15, 1);
            x.pass(1);
            answers(x, 47, () -> x.whole(9));
        });
        test("17: 13 sum of the values of all cells: the greatest", x -> {
            for (int cell = 0; cell < 48; cell++) {
                x.write(cell, 999);
            }
            answers(x, 47952, () -> x.whole(13));
        });
        test("17: 13 sum of the values of all cells: the least", x -> {
            for (int cell = 0; cell < 48; cell++) {
                x.write(cell, -999);
            }
            answers(x, -47952, () -> x.whole(13));
        });
        test("17: 13 sum of the values of all cells: the first and the last, in rings or not", x -> {
            x.addRing(0, 2, 0);
            x.write(0, 1);
            x.write(47, 20);
            answers(x, 21, () -> x.whole(13));
        });
    }

    private static void reasonNumbers() {
        test("18: cell: 0 is one, -1 is none", x -> {
            twoRings(x);
            x.move(0, 0, 1, 0, 1);
            answers(x, 2, () -> x.reason(0));
            refused(x, NO_SUCH, () -> x.reason(-1));
            refused(x, NO_SUCH, () -> x.reason(LEAST));
        });
        test("18: cell: 47 is one, 48 is none", x -> {
            x.addRing(46, 2, 0);
            x.move(0, 1, 0, 0, 1);
            answers(x, 2, () -> x.reason(47));
            refused(x, NO_SUCH, () -> x.reason(48));
            refused(x, NO_SUCH, () -> x.reason(64));
            refused(x, NO_SUCH, () -> x.reason(GREATEST));
        });
    }

    private static void reasons() {
        test("18: 0 without moves, and beside the cells of a move", x -> {
            twoRings(x);
            rows(new long[48], reasons(x, 0, 48));
            x.move(0, 1, 1, 2, 2);
            rows(row(0, 2, 2, 0, 0, 0, 2, 2, 0), reasons(x, 0, 9));
        });
        test("18: 1 a move holds it: from the start, while it is copied, until it is signed", x -> {
            twoRings(x);
            x.move(0, 0, 1, 0, 3);
            answers(x, 2, () -> x.reason(0));
            x.pass(1);
            answers(x, 1, () -> x.reason(0));
            x.pass(1);
            answers(x, 1, () -> x.reason(0));
            x.sign(1);
            answers(x, 0, () -> x.reason(0));
        });
        test("18: 2 a waiting move reads or writes it, until it starts", x -> {
            twoRings(x);
            x.move(0, 0, 1, 0, 1);
            rows(row(2, 0, 0, 0, 2, 0, 0, 0), reasons(x, 0, 8));
            x.pass(1);
            rows(row(1, 0, 0, 0, 0, 0, 0, 0), reasons(x, 0, 8));
        });
        test("18: 3 a copying move has it as a target cell, also if it has written it, until it is copied", x -> {
            twoRings(x);
            x.move(0, 0, 1, 0, 3);
            x.pass(1);
            rows(row(3, 3, 3, 0), reasons(x, 4, 4));
            x.pass(1);
            rows(row(0, 0, 0, 0), reasons(x, 4, 4));
        });
        test("18: 1: of two moves that hold, of the first and of the last", x -> {
            twoRings(x);
            x.move(0, 0, 1, 0, 1);
            x.move(0, 2, 1, 2, 1);
            x.pass(1);
            rows(row(1, 0, 1, 0, 0, 0, 0, 0), reasons(x, 0, 8));
        });
        test("18: 2: of two waiting moves, of the first and of the last", x -> {
            twoRings(x);
            x.move(0, 0, 1, 0, 1);
            x.move(0, 2, 1, 2, 1);
            rows(row(2, 0, 2, 0, 2, 0, 2, 0), reasons(x, 0, 8));
        });
        test("18: 3: of two copying moves, of the first and of the last", x -> {
            twoRings(x);
            x.set(0, 1);
            x.move(0, 0, 1, 0, 2);
            x.move(0, 0, 1, 2, 2);
            x.pass(1);
            rows(row(1, 1, 0, 0, 3, 3, 3, 3), reasons(x, 0, 8));
        });
        test("18: 1 goes before 2", x -> {
            twoRings(x);
            x.move(0, 0, 1, 0, 1);
            x.pass(1);
            x.move(0, 0, 1, 1, 1);
            x.move(1, 1, 0, 0, 1);
            answers(x, 1, () -> x.reason(0));
            x.sign(1);
            answers(x, 2, () -> x.reason(0));
        });
        test("18: 1 goes before 3", x -> {
            twoRings(x);
            x.set(0, 1);
            x.move(0, 0, 0, 1, 2);
            x.pass(1);
            rows(row(1, 1, 3, 0), reasons(x, 0, 4));
        });
        test("18: 2 goes before 3", x -> {
            twoRings(x);
            x.set(0, 1);
            x.move(0, 0, 1, 0, 3);
            x.move(1, 1, 0, 3, 1);
            x.pass(1);
            rows(row(3, 2, 3, 0), reasons(x, 4, 4));
        });
        test("18: write is refused just where there is a reason", x -> {
            twoRings(x);
            x.set(0, 1);
            x.move(0, 0, 1, 0, 2);
            x.move(1, 0, 0, 3, 1);
            x.pass(1);
            rows(row(1, 1, 0, 2, 2, 3, 0, 0), reasons(x, 0, 8));
            for (int cell : new int[] {0, 1, 3, 4, 5}) {
                refused(x, NOT_NOW, () -> x.write(cell, 0));
            }
            for (int cell : new int[] {2, 6, 7, 8, 47}) {
                undoable(x, cell < 8 ? cell + 1 : 0, () -> x.write(cell, 0));
            }
        });
    }

    private static void waitsForNumbers() {
        test("19: move: 0 is one, -1 is none", x -> {
            twoRings(x);
            x.move(0, 0, 1, 0, 1);
            answers(x, 0, () -> x.waitsFor(0));
            refused(x, NO_SUCH, () -> x.waitsFor(-1));
            refused(x, NO_SUCH, () -> x.waitsFor(LEAST));
        });
        test("19: move: the last is one, the next is none", x -> {
            twoRings(x);
            x.move(0, 0, 1, 0, 1);
            x.move(0, 0, 1, 0, 1);
            answers(x, 1, () -> x.waitsFor(1));
            refused(x, NO_SUCH, () -> x.waitsFor(2));
            refused(x, NO_SUCH, () -> x.waitsFor(GREATEST));
        });
        test("19: bit m for the move m: all 23 before the last", x -> {
            twoRings(x);
            for (int move = 0; move < 24; move++) {
                x.move(0, 0, 1, 0, 1);
            }
            answers(x, (1 << 23) - 1, () -> x.waitsFor(23));
            answers(x, 1, () -> x.waitsFor(1));
            refused(x, NO_SUCH, () -> x.waitsFor(24));
        });
        test("19: 0 if it is not waiting: copying, copied, signed", x -> {
            twoRings(x);
            x.set(0, 1);
            x.move(0, 0, 1, 0, 1);
            x.move(0, 0, 1, 0, 2);
            x.pass(1);
            answers(x, 0, () -> x.waitsFor(1));
            x.pass(1);
            equal(COPYING, x.moveOf(1, 5));
            answers(x, 0, () -> x.waitsFor(1));
            x.pass(1);
            equal(COPIED, x.moveOf(1, 5));
            answers(x, 0, () -> x.waitsFor(1));
            x.sign(1);
            x.sign(1);
            answers(x, 0, () -> x.waitsFor(1));
        });
        test("19: no move waits for a later one or for itself", x -> {
            twoRings(x);
            x.move(0, 0, 0, 0, 1);
            x.move(0, 0, 0, 0, 1);
            answers(x, 0, () -> x.waitsFor(0));
            answers(x, 1, () -> x.waitsFor(1));
        });
        test("19: a move that has no lane waits for none", x -> {
            twoRings(x);
            x.set(0, 1);
            x.set(1, 1);
            x.move(0, 0, 1, 0, 2);
            x.move(0, 2, 1, 2, 1);
            x.pass(1);
            equal(WAITING, x.moveOf(1, 5));
            answers(x, 0, () -> x.waitsFor(1));
        });
    }

    private static void waitsForHostages() {
        test("19: a target cell is a source cell of an earlier move, which waits, copies, is copied: not signed", x -> {
            twoRings(x);
            x.move(0, 0, 1, 0, 3);
            x.move(1, 3, 0, 2, 1);
            answers(x, 1, () -> x.waitsFor(1));
            x.pass(1);
            equal(COPYING, x.moveOf(0, 5));
            answers(x, 1, () -> x.waitsFor(1));
            x.pass(1);
            equal(COPIED, x.moveOf(0, 5));
            answers(x, 1, () -> x.waitsFor(1));
            x.sign(1);
            answers(x, 0, () -> x.waitsFor(1));
        });
        test("19: a target cell just beside the source cells of an earlier move does not wait", x -> {
            twoRings(x);
            x.move(0, 0, 1, 0, 3);
            x.move(1, 3, 0, 3, 1);
            answers(x, 0, () -> x.waitsFor(1));
        });
        test("19: a source cell that an earlier move reads too does not wait", x -> {
            twoRings(x);
            x.move(0, 0, 1, 0, 3);
            x.move(0, 0, 1, 3, 1);
            answers(x, 0, () -> x.waitsFor(1));
            x.pass(1);
            answers(x, 0, () -> x.waitsFor(1));
        });
        test("19: a hostage round the end of a ring", x -> {
            twoRings(x);
            x.move(0, 3, 1, 0, 2);
            x.move(1, 3, 0, 0, 1);
            x.move(1, 3, 0, 1, 1);
            answers(x, 0b1, () -> x.waitsFor(1));
            answers(x, 0, () -> x.waitsFor(2));
        });
    }

    private static void waitsForWriters() {
        test("19: a source cell is a target cell of an earlier move that waits or copies: not copied", x -> {
            twoRings(x);
            x.move(0, 0, 1, 0, 3);
            x.move(1, 2, 0, 3, 1);
            answers(x, 1, () -> x.waitsFor(1));
            x.pass(1);
            equal(COPYING, x.moveOf(0, 5));
            answers(x, 1, () -> x.waitsFor(1));
            x.pass(1);
            equal(COPIED, x.moveOf(0, 5));
            answers(x, 0, () -> x.waitsFor(1));
        });
        test("19: a source cell just beside the target cells of an earlier move does not wait", x -> {
            twoRings(x);
            x.move(0, 0, 1, 0, 3);
            x.move(1, 3, 0, 3, 1);
            answers(x, 0, () -> x.waitsFor(1));
        });
        test("19: a target cell is a target cell of an earlier move that waits or copies: not copied", x -> {
            twoRings(x);
            x.move(0, 0, 1, 0, 3);
            x.move(0, 3, 1, 2, 1);
            answers(x, 1, () -> x.waitsFor(1));
            x.pass(1);
            equal(COPYING, x.moveOf(0, 5));
            answers(x, 1, () -> x.waitsFor(1));
            x.pass(1);
            equal(COPIED, x.moveOf(0, 5));
            answers(x, 0, () -> x.waitsFor(1));
        });
        test("19: a target cell just beside the target cells of an earlier move does not wait", x -> {
            twoRings(x);
            x.move(0, 0, 1, 0, 3);
            x.move(0, 3, 1, 3, 1);
            answers(x, 0, () -> x.waitsFor(1));
        });
        test("19: a target cell that a copying move has written already still makes others wait", x -> {
            twoRings(x);
            x.set(0, 1);
            x.move(0, 0, 1, 0, 3);
            x.move(0, 3, 1, 0, 1);
            x.pass(2);
            equal(2, x.moveOf(0, 6));
            answers(x, 1, () -> x.waitsFor(1));
        });
        test("19: for some of the earlier ones", x -> {
            twoRings(x);
            x.move(0, 0, 1, 0, 1);
            x.move(0, 1, 1, 1, 1);
            x.move(0, 2, 1, 2, 1);
            x.move(1, 1, 0, 2, 1);
            answers(x, 0b110, () -> x.waitsFor(3));
        });
    }

    private static void depth() {
        test("20: move: 0 is one, -1 is none", x -> {
            twoRings(x);
            x.move(0, 0, 1, 0, 1);
            answers(x, 0, () -> x.depth(0));
            refused(x, NO_SUCH, () -> x.depth(-1));
            refused(x, NO_SUCH, () -> x.depth(LEAST));
        });
        test("20: move: the last is one, the next is none", x -> {
            twoRings(x);
            x.move(0, 0, 1, 0, 1);
            x.move(0, 0, 1, 0, 1);
            answers(x, 1, () -> x.depth(1));
            refused(x, NO_SUCH, () -> x.depth(2));
            refused(x, NO_SUCH, () -> x.depth(GREATEST));
        });
        test("20: from 0 to 23", x -> {
            twoRings(x);
            for (int move = 0; move < 24; move++) {
                x.move(0, 0, 1, 0, 1);
            }
            for (int move = 0; move < 24; move++) {
                equal(move, x.depth(move));
            }
            refused(x, NO_SUCH, () -> x.depth(24));
        });
        test("20: 0 if it waits for none: copying, copied and signed moves do not", x -> {
            twoRings(x);
            x.move(0, 0, 1, 0, 1);
            x.move(0, 0, 1, 0, 3);
            x.pass(1);
            answers(x, 0, () -> x.depth(1));
            x.pass(1);
            equal(COPYING, x.moveOf(1, 5));
            answers(x, 0, () -> x.depth(1));
            x.pass(1);
            equal(COPIED, x.moveOf(1, 5));
            answers(x, 0, () -> x.depth(1));
        });
        test("20: 1 if it waits for one that does not wait, copied or not", x -> {
            twoRings(x);
            x.move(0, 0, 1, 0, 3);
            x.move(1, 3, 0, 0, 1);
            answers(x, 1, () -> x.depth(1));
            x.pass(1);
            answers(x, 1, () -> x.depth(1));
            x.pass(1);
            equal(COPIED, x.moveOf(0, 5));
            answers(x, 1, () -> x.depth(1));
            x.sign(1);
            answers(x, 0, () -> x.depth(1));
        });
        test("20: the greatest depth counts, not the latest", x -> {
            x.addRing(0, 8, 0);
            x.addRing(8, 8, 0);
            x.move(0, 0, 1, 0, 1);
            x.move(1, 0, 1, 1, 1);
            x.move(0, 7, 1, 2, 1);
            x.move(1, 1, 1, 2, 1);
            x.move(0, 6, 1, 3, 1);
            x.move(1, 2, 1, 3, 1);
            rows(row(0b1, 0b110, 0b11100), row(x.waitsFor(1), x.waitsFor(3), x.waitsFor(5)));
            rows(row(0, 1, 0, 2, 0, 3), row(x.depth(0), x.depth(1), x.depth(2), x.depth(3), x.depth(4),
                    x.depth(5)));
        });
    }

    private static void finalValueNumbers() {
        test("21: cell: 0 is one, -1 is none", x -> {
            x.write(0, -999);
            answers(x, -999, () -> x.finalValue(0));
            refused(x, NO_SUCH, () -> x.finalValue(-1));
            refused(x, NO_SUCH, () -> x.finalValue(LEAST));
        });
        test("21: cell: 47 is one, 48 is none", x -> {
            x.write(47, 999);
            answers(x, 999, () -> x.finalValue(47));
            refused(x, NO_SUCH, () -> x.finalValue(48));
            refused(x, NO_SUCH, () -> x.finalValue(GREATEST));
        });
    }

    private static void finalValues() {
        test("21: without moves, all cells as they are", x -> {
            twoRings(x);
            rows(row(1, 2, 3, 4, 5, 6, 7, 8, 0), finals(x, 0, 9));
        });
        test("21: a waiting move takes its values at its turn", x -> {
            twoRings(x);
            x.move(0, 0, 1, 0, 2);
            x.move(1, 0, 0, 3, 1);
            rows(row(1, 2, 3, 1, 1, 2, 7, 8), finals(x, 0, 8));
        });
        test("21: in their order: the later of two writers", x -> {
            twoRings(x);
            x.move(0, 0, 1, 0, 1);
            x.move(0, 1, 1, 0, 1);
            answers(x, 2, () -> x.finalValue(4));
        });
        test("21: a move within a ring takes all values before it writes one", x -> {
            twoRings(x);
            x.move(0, 0, 0, 1, 4);
            rows(row(4, 1, 2, 3), finals(x, 0, 4));
        });
        test("21: a copying move writes the values that it took", x -> {
            twoRings(x);
            x.set(0, 1);
            x.move(0, 0, 0, 1, 4);
            x.pass(2);
            rows(row(1, 1, 2, 4), cells(x, 0, 4));
            rows(row(4, 1, 2, 3), finals(x, 0, 4));
        });
        test("21: a copying move writes the last of the sixteen values that it took", x -> {
            x.addRing(0, 16, 0);
            x.write(14, -999);
            x.write(15, 999);
            x.set(0, 1);
            x.move(0, 0, 0, 2, 16);
            x.pass(1);
            rows(row(-999, 999, 0), finals(x, 0, 3));
            x.pass(13);
            rows(row(0, 0), cells(x, 14, 2));
            rows(row(-999, 999, 0), finals(x, 0, 3));
        });
        test("21: what a copied move wrote stays as it is, also if it is written by hand then", x -> {
            twoRings(x);
            x.move(0, 0, 1, 0, 1);
            x.pass(1);
            x.write(4, -5);
            answers(x, -5, () -> x.finalValue(4));
            x.sign(1);
            answers(x, -5, () -> x.finalValue(4));
        });
        test("21: the strike or the patience of a ring does not matter", x -> {
            twoRings(x);
            x.move(0, 0, 1, 0, 1);
            x.pass(1);
            x.move(1, 3, 0, 0, 1);
            x.strike(1, true);
            equal(NONE, x.copiedIn(1));
            answers(x, 8, () -> x.finalValue(0));
        });
        test("21: a chain of 24 moves", x -> {
            twoRings(x);
            for (int move = 0; move < 24; move++) {
                x.move(move % 2, 0, (move + 1) % 2, move == 23 ? 1 : 0, 1);
            }
            rows(row(1, 1, 3, 4, 1, 6, 7, 8), finals(x, 0, 8));
        });
        test("21: also beyond the tick 9999", x -> {
            twoRings(x);
            passTo(x, 9999);
            x.move(0, 0, 1, 0, 4);
            rows(row(1, 2, 3, 4), finals(x, 4, 4));
        });
    }

    private static void copiedInNumbers() {
        test("22: move: 0 is one, -1 is none", x -> {
            twoRings(x);
            x.move(0, 0, 1, 0, 1);
            answers(x, 1, () -> x.copiedIn(0));
            refused(x, NO_SUCH, () -> x.copiedIn(-1));
            refused(x, NO_SUCH, () -> x.copiedIn(LEAST));
        });
        test("22: move: the last is one, the next is none", x -> {
            twoRings(x);
            x.move(0, 0, 1, 0, 1);
            x.move(0, 1, 1, 1, 3);
            answers(x, 2, () -> x.copiedIn(1));
            refused(x, NO_SUCH, () -> x.copiedIn(2));
            refused(x, NO_SUCH, () -> x.copiedIn(GREATEST));
        });
        test("22: move: the 24th is one, a 25th is none", x -> {
            twoRings(x);
            for (int move = 0; move < 24; move++) {
                x.move(0, 0, 1, 0, 1);
            }
            answers(x, 24, () -> x.copiedIn(23));
            refused(x, NO_SUCH, () -> x.copiedIn(24));
        });
        test("22: 0 if it is copied or signed already", x -> {
            twoRings(x);
            x.move(0, 0, 1, 0, 3);
            answers(x, 2, () -> x.copiedIn(0));
            x.pass(1);
            answers(x, 1, () -> x.copiedIn(0));
            x.pass(1);
            answers(x, 0, () -> x.copiedIn(0));
            x.sign(1);
            answers(x, 0, () -> x.copiedIn(0));
        });
        test("22: 0 for a copied move also at the tick 9999", x -> {
            twoRings(x);
            passTo(x, 9998);
            x.move(0, 0, 1, 0, 1);
            x.pass(1);
            answers(x, 0, () -> x.copiedIn(0));
        });
    }

    /** A chain of one-cell moves from ring to ring, each of which waits for the signature of the one before. */
    private static void chain(Engine x, int patience, int moves) {
        twoRings(x);
        x.setPatience(0, patience);
        x.setPatience(1, patience);
        for (int move = 0; move < moves; move++) {
            x.move(move % 2, 0, (move + 1) % 2, 0, 1);
        }
    }

    private static void copiedInBounds() {
        test("22: 300 ticks are told, 301 are NONE: signatures after 50 ticks each", x -> {
            chain(x, 50, 7);
            answers(x, 251, () -> x.copiedIn(5));
            answers(x, NONE, () -> x.copiedIn(6));
            x.pass(1);
            answers(x, 300, () -> x.copiedIn(6));
        });
        test("22: 298, 299 and 300 ticks are told, 301 are NONE: the last value counts", x -> {
            chain(x, 50, 6);
            x.setPatience(1, 49);
            x.set(0, 1);
            x.move(0, 0, 1, 0, 1);
            for (int count = 1; count <= 3; count++) {
                x.undo();
                int own = count;
                x.move(0, 0, 1, 0, own);
                answers(x, 3 * 50 + 3 * 49 + own, () -> x.copiedIn(6));
            }
            x.undo();
            x.move(0, 0, 1, 0, 4);
            answers(x, NONE, () -> x.copiedIn(6));
        });
        test("22: at its speed: 16 values one by one", x -> {
            x.addRing(0, 16, 0);
            x.addRing(16, 16, 0);
            x.set(0, 1);
            x.move(0, 0, 1, 0, 16);
            answers(x, 16, () -> x.copiedIn(0));
            x.set(0, 8);
            answers(x, 2, () -> x.copiedIn(0));
        });
        test("22: NONE if it waits for a hostage that nobody signs", x -> {
            chain(x, 0, 2);
            answers(x, 1, () -> x.copiedIn(0));
            answers(x, NONE, () -> x.copiedIn(1));
        });
        test("22: NONE in a strike, which nothing ends if only ticks pass", x -> {
            chain(x, 1, 2);
            answers(x, 2, () -> x.copiedIn(1));
            x.strike(1, true);
            answers(x, NONE, () -> x.copiedIn(1));
        });
        test("22: it waits for a lane too", x -> {
            twoRings(x);
            x.set(0, 1);
            x.set(1, 1);
            x.move(0, 0, 1, 0, 3);
            x.move(0, 3, 1, 3, 1);
            answers(x, 4, () -> x.copiedIn(1));
            x.set(1, 2);
            answers(x, 1, () -> x.copiedIn(1));
        });
        test("22: also beyond the tick 9999", x -> {
            chain(x, 50, 3);
            passTo(x, 9998);
            equal(0, x.copiedIn(2));
            x.move(1, 1, 0, 1, 1);
            x.move(0, 1, 1, 1, 1);
            x.pass(1);
            equal(9999, x.whole(8));
            refused(x, NOT_NOW, () -> x.pass(1));
            answers(x, 50, () -> x.copiedIn(4));
        });
    }

    private static void stuckOrNot() {
        test("23: not without moves, nor if none is waiting", x -> {
            twoRings(x);
            answers(x, 0, () -> x.stuck());
            x.move(0, 0, 1, 0, 1);
            x.pass(1);
            answers(x, 0, () -> x.stuck());
            x.sign(1);
            answers(x, 0, () -> x.stuck());
        });
        test("23: some move is waiting: one that can start is not stuck, one behind a hostage is", x -> {
            chain(x, 0, 2);
            answers(x, 0, () -> x.stuck());
            x.pass(1);
            answers(x, 1, () -> x.stuck());
            x.sign(1);
            answers(x, 0, () -> x.stuck());
        });
        test("23: none is copying: not while one is, even if none would start", x -> {
            twoRings(x);
            x.move(0, 0, 1, 0, 3);
            x.move(1, 3, 0, 0, 1);
            x.pass(1);
            equal(COPYING, x.moveOf(0, 5));
            equal(NONE, x.copiedIn(1));
            answers(x, 0, () -> x.stuck());
            x.pass(1);
            equal(COPIED, x.moveOf(0, 5));
            answers(x, 1, () -> x.stuck());
        });
        test("23: one of many that can start is enough", x -> {
            chain(x, 0, 20);
            x.pass(1);
            answers(x, 1, () -> x.stuck());
            x.move(0, 3, 1, 3, 1);
            answers(x, 0, () -> x.stuck());
            x.pass(1);
            answers(x, 1, () -> x.stuck());
        });
        test("23: in a strike, until it ends", x -> {
            chain(x, 1, 2);
            x.strike(1, true);
            x.pass(10);
            answers(x, 1, () -> x.stuck());
            x.strike(1, false);
            answers(x, 0, () -> x.stuck());
        });
    }

    private static void stuckBounds() {
        test("23: not if a ring signs in the last tick that its patience can be, 50 ticks on", x -> {
            chain(x, 50, 2);
            x.pass(1);
            equal(50, x.copiedIn(1));
            answers(x, 0, () -> x.stuck());
            x.pass(49);
            answers(x, 0, () -> x.stuck());
            x.setPatience(1, 0);
            answers(x, 1, () -> x.stuck());
        });
        test("23: not if a ring that has become patient again signs 50 ticks on", x -> {
            chain(x, 0, 2);
            x.pass(1);
            answers(x, 1, () -> x.stuck());
            x.setPatience(1, 50);
            answers(x, 0, () -> x.stuck());
        });
        test("23: also beyond the tick 9999", x -> {
            chain(x, 0, 2);
            passTo(x, 9999);
            answers(x, 1, () -> x.stuck());
            x.setPatience(1, 50);
            answers(x, 0, () -> x.stuck());
        });
    }
}
