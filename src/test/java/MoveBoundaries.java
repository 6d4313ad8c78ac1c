/** The boundary cases of the promises 6 to 8, 10 and 13 to 16: moves, signatures, strikes, sweeps and their values. */
final class MoveBoundaries extends Boundary {
    private MoveBoundaries() {
    }

    static void all() {
        moveRings();
        movePlaces();
        moveCounts();
        moveTable();
        moveExceptions();
        sign();
        signedWhich();
        strike();
        strikeAtWork();
        sweepHowMany();
        sweepWhatStays();
        moveOfNumbers();
        moveOfValues();
        hostageNumbers();
        hostageStates();
        cellSet();
        held();
    }

    private static void moveRings() {
        test("6: from: 0 is a ring, -1 is none", x -> {
            twoRings(x);
            refused(x, NO_SUCH, () -> x.move(-1, 0, 1, 0, 1));
            refused(x, NO_SUCH, () -> x.move(LEAST, 0, 1, 0, 1));
            undoable(x, 0, () -> x.move(0, 0, 1, 0, 1));
            equal(0, x.moveOf(0, 0));
        });
        test("6: from: the last is a ring, the next is none", x -> {
            twoRings(x);
            refused(x, NO_SUCH, () -> x.move(2, 0, 1, 0, 1));
            refused(x, NO_SUCH, () -> x.move(GREATEST, 0, 1, 0, 1));
            undoable(x, 0, () -> x.move(1, 0, 0, 0, 1));
            equal(1, x.moveOf(0, 0));
        });
        test("6: to: 0 is a ring, -1 is none", x -> {
            twoRings(x);
            refused(x, NO_SUCH, () -> x.move(1, 0, -1, 0, 1));
            refused(x, NO_SUCH, () -> x.move(1, 0, LEAST, 0, 1));
            undoable(x, 0, () -> x.move(1, 0, 0, 0, 1));
            equal(0, x.moveOf(0, 2));
        });
        test("6: to: the last is a ring, the next is none", x -> {
            twoRings(x);
            refused(x, NO_SUCH, () -> x.move(0, 0, 2, 0, 1));
            refused(x, NO_SUCH, () -> x.move(0, 0, GREATEST, 0, 1));
            undoable(x, 0, () -> x.move(0, 0, 1, 0, 1));
            equal(1, x.moveOf(0, 2));
        });
        test("6: the target ring may be the source ring, and the cells the same", x -> {
            twoRings(x);
            undoable(x, 0, () -> x.move(0, 1, 0, 1, 2));
            equal(1, x.copiedIn(0));
            undoable(x, 1, () -> x.pass(1));
            rows(row(1, 2, 3, 4), cells(x, 0, 4));
        });
        test("6: the sixth ring is a source and a target", x -> {
            for (int ring = 0; ring < 6; ring++) {
                x.addRing(8 * ring, 8, 0);
            }
            x.write(47, 5);
            refused(x, NO_SUCH, () -> x.move(6, 0, 5, 0, 1));
            refused(x, NO_SUCH, () -> x.move(5, 0, 6, 0, 1));
            undoable(x, 0, () -> x.move(5, 7, 5, 6, 1));
            x.pass(1);
            equal(5, x.cell(46));
        });
    }

    private static void movePlaces() {
        test("6: fromPlace: 0 is in range, -1 is not", x -> {
            twoRings(x);
            refused(x, RANGE, () -> x.move(0, -1, 1, 0, 1));
            refused(x, RANGE, () -> x.move(0, LEAST, 1, 0, 1));
            undoable(x, 0, () -> x.move(0, 0, 1, 0, 1));
            equal(0b1, x.cellSet(0, false));
        });
        test("6: fromPlace: 99 is in range, 100 is not", x -> {
            twoRings(x);
            refused(x, RANGE, () -> x.move(0, 100, 1, 0, 1));
            refused(x, RANGE, () -> x.move(0, GREATEST, 1, 0, 1));
            undoable(x, 0, () -> x.move(0, 99, 1, 0, 1));
            equal(0b1000, x.cellSet(0, false));
        });
        test("6: toPlace: 0 is in range, -1 is not", x -> {
            twoRings(x);
            refused(x, RANGE, () -> x.move(0, 0, 1, -1, 1));
            refused(x, RANGE, () -> x.move(0, 0, 1, LEAST, 1));
            undoable(x, 0, () -> x.move(0, 0, 1, 0, 1));
            equal(0b10000, x.cellSet(0, true));
        });
        test("6: toPlace: 99 is in range, 100 is not", x -> {
            twoRings(x);
            refused(x, RANGE, () -> x.move(0, 0, 1, 100, 1));
            refused(x, RANGE, () -> x.move(0, 0, 1, GREATEST, 1));
            undoable(x, 0, () -> x.move(0, 0, 1, 99, 1));
            equal(0b10000000, x.cellSet(0, true));
        });
        test("6: place k is the first cell + k modulo the length: up to the end of the ring and round it", x -> {
            x.addRing(5, 3, 0);
            for (int place = 0; place < 10; place++) {
                x.move(0, place, 0, place + 1, 1);
            }
            for (int place = 0; place < 10; place++) {
                equal(1L << 5 + place % 3, x.cellSet(place, false));
                equal(1L << 5 + (place + 1) % 3, x.cellSet(place, true));
            }
        });
        test("6: a move reads and writes round the end of a ring", x -> {
            twoRings(x);
            x.move(0, 3, 1, 2, 3);
            x.pass(2);
            rows(row(1, 2, 3, 4, 2, 6, 4, 1), cells(x, 0, 8));
        });
        test("6: a move of 16 cells from place 99 goes round a ring of 16", x -> {
            x.addRing(0, 16, 0);
            x.addRing(32, 16, 0);
            for (int cell = 0; cell < 16; cell++) {
                x.write(cell, cell + 100);
            }
            x.set(0, 8);
            x.move(0, 99, 1, 98, 16);
            x.pass(2);
            rows(row(101, 102, 103, 104, 105, 106, 107, 108, 109, 110, 111, 112, 113, 114, 115, 100),
                    cells(x, 32, 16));
        });
    }

    private static void moveCounts() {
        test("6: count: 1 is enough, 0 is not", x -> {
            twoRings(x);
            refused(x, RANGE, () -> x.move(0, 0, 1, 0, 0));
            refused(x, RANGE, () -> x.move(0, 0, 1, 0, -1));
            refused(x, RANGE, () -> x.move(0, 0, 1, 0, LEAST));
            undoable(x, 0, () -> x.move(0, 0, 1, 0, 1));
            equal(1, x.moveOf(0, 4));
        });
        test("6: count: the length of a shorter source ring, not more", x -> {
            x.addRing(0, 3, 0);
            x.addRing(3, 5, 0);
            refused(x, RANGE, () -> x.move(0, 0, 1, 0, 4));
            refused(x, RANGE, () -> x.move(0, 0, 1, 0, GREATEST));
            undoable(x, 0, () -> x.move(0, 0, 1, 0, 3));
        });
        test("6: count: the length of a shorter target ring, not more", x -> {
            x.addRing(0, 5, 0);
            x.addRing(5, 3, 0);
            refused(x, RANGE, () -> x.move(0, 0, 1, 0, 4));
            refused(x, RANGE, () -> x.move(0, 0, 1, 0, GREATEST));
            undoable(x, 0, () -> x.move(0, 0, 1, 0, 3));
        });
        test("6: count: 16 for rings of 16, not 17", x -> {
            x.addRing(0, 16, 0);
            x.addRing(16, 16, 0);
            refused(x, RANGE, () -> x.move(0, 0, 1, 0, 17));
            refused(x, RANGE, () -> x.move(1, 0, 1, 0, 17));
            undoable(x, 0, () -> x.move(0, 0, 1, 0, 16));
            undoable(x, 1, () -> x.move(1, 0, 1, 0, 16));
        });
        test("6: count: 2 for rings of 2, not 3", x -> {
            x.addRing(0, 2, 0);
            refused(x, RANGE, () -> x.move(0, 0, 0, 1, 3));
            undoable(x, 0, () -> x.move(0, 0, 0, 1, 2));
        });
    }

    private static void moveTable() {
        test("6: 24 moves, numbered from 0, and no 25th", x -> {
            twoRings(x);
            for (int move = 0; move < 23; move++) {
                equal(move, x.move(0, move, 1, move, 1));
            }
            undoable(x, 23, () -> x.move(0, 0, 1, 0, 1));
            equal(24, whole(x, 1));
            refused(x, NOT_NOW, () -> x.move(0, 0, 1, 0, 1));
        });
        test("6: signed moves count among the 24", x -> {
            twoRings(x);
            for (int move = 0; move < 24; move++) {
                x.move(0, 0, 1, move, 1);
            }
            passTo(x, 12);
            for (int move = 0; move < 24; move++) {
                x.sign(1);
            }
            equal(24, whole(x, 5));
            refused(x, NOT_NOW, () -> x.move(0, 0, 1, 0, 1));
            x.sweep();
            undoable(x, 0, () -> x.move(0, 0, 1, 0, 1));
        });
        test("6: one swept move makes room for one", x -> {
            twoRings(x);
            for (int move = 0; move < 24; move++) {
                x.move(0, 0, 1, 0, 1);
            }
            x.pass(1);
            x.sign(1);
            refused(x, NOT_NOW, () -> x.move(0, 0, 1, 0, 1));
            x.sweep();
            undoable(x, 23, () -> x.move(0, 0, 1, 0, 1));
            refused(x, NOT_NOW, () -> x.move(0, 0, 1, 0, 1));
        });
        test("6: a told move is waiting: nothing taken, written or held", x -> {
            twoRings(x);
            x.move(1, 99, 0, 98, 4);
            rows(row(1, 99, 0, 98, 4, WAITING, 0, NONE, NONE, NONE), moveRow(x, 0));
            equal(NONE, x.hostage(0, 0));
            equal(0, x.held());
            rows(row(1, 2, 3, 4, 5, 6, 7, 8), cells(x, 0, 8));
        });
        test("6: a move in the place of a swept one is waiting, too", x -> {
            twoRings(x);
            x.move(0, 0, 1, 0, 1);
            x.pass(1);
            x.sign(1);
            x.sweep();
            undoable(x, 0, () -> x.move(0, 0, 1, 0, 4));
            rows(row(0, 0, 1, 0, 4, WAITING, 0, NONE, NONE, NONE), moveRow(x, 0));
        });
        test("6: a move in the place of an undone one is waiting, too", x -> {
            twoRings(x);
            x.move(0, 0, 1, 0, 4);
            x.pass(1);
            x.undo();
            x.undo();
            undoable(x, 0, () -> x.move(1, 1, 0, 1, 1));
            rows(row(1, 1, 0, 1, 1, WAITING, 0, NONE, NONE, NONE), moveRow(x, 0));
        });
        test("6: a move in the place of one that was signed in the run that is undone is waiting, too", x -> {
            twoRings(x);
            Check.type(x, "move 0 0 1 0 4;ticks 2;sign 1;");
            equal(3, x.runCommands());
            x.undo();
            undoable(x, 0, () -> x.move(1, 1, 0, 1, 1));
            rows(row(1, 1, 0, 1, 1, WAITING, 0, NONE, NONE, NONE), moveRow(x, 0));
        });
    }

    private static void moveExceptions() {
        test("6: no such source ring goes before place and count", x -> {
            twoRings(x);
            refused(x, NO_SUCH, () -> x.move(2, 100, 1, 0, 1));
            refused(x, NO_SUCH, () -> x.move(-1, 0, 1, -1, 1));
            refused(x, NO_SUCH, () -> x.move(2, 0, 1, 0, 0));
            refused(x, NO_SUCH, () -> x.move(2, 0, 1, 0, 5));
        });
        test("6: no such target ring goes before place and count", x -> {
            twoRings(x);
            refused(x, NO_SUCH, () -> x.move(0, 100, 2, 0, 1));
            refused(x, NO_SUCH, () -> x.move(0, 0, -1, -1, 1));
            refused(x, NO_SUCH, () -> x.move(0, 0, 2, 0, 0));
            refused(x, NO_SUCH, () -> x.move(0, 0, 2, 0, 5));
        });
        test("6: no such ring and out of range go before 24 moves", x -> {
            twoRings(x);
            for (int move = 0; move < 24; move++) {
                x.move(0, 0, 1, 0, 1);
            }
            refused(x, NO_SUCH, () -> x.move(2, 0, 1, 0, 1));
            refused(x, NO_SUCH, () -> x.move(0, 0, 2, 0, 1));
            refused(x, RANGE, () -> x.move(0, 100, 1, 0, 1));
            refused(x, RANGE, () -> x.move(0, 0, 1, 100, 1));
            refused(x, RANGE, () -> x.move(0, 0, 1, 0, 0));
            refused(x, RANGE, () -> x.move(0, 0, 1, 0, 5));
            refused(x, NOT_NOW, () -> x.move(0, 0, 1, 0, 1));
        });
    }

    private static void sign() {
        test("7: ring: 0 is one, -1 is none", x -> {
            twoRings(x);
            x.move(1, 0, 0, 0, 1);
            x.pass(1);
            refused(x, NO_SUCH, () -> x.sign(-1));
            refused(x, NO_SUCH, () -> x.sign(LEAST));
            undoable(x, 0, () -> x.sign(0));
        });
        test("7: ring: the last is one, the next is none", x -> {
            twoRings(x);
            x.move(0, 0, 1, 0, 1);
            x.pass(1);
            refused(x, NO_SUCH, () -> x.sign(2));
            refused(x, NO_SUCH, () -> x.sign(GREATEST));
            undoable(x, 0, () -> x.sign(1));
        });
        test("7: no signature while the ring strikes, but then", x -> {
            twoRings(x);
            x.move(0, 0, 1, 0, 1);
            x.pass(1);
            x.strike(1, true);
            refused(x, NOT_NOW, () -> x.sign(1));
            x.strike(1, false);
            undoable(x, 0, () -> x.sign(1));
        });
        test("7: the strike of the source ring does not matter", x -> {
            twoRings(x);
            x.move(0, 0, 1, 0, 1);
            x.pass(1);
            x.strike(0, true);
            undoable(x, 0, () -> x.sign(1));
        });
        test("7: a waiting move cannot be signed", x -> {
            twoRings(x);
            refused(x, NOT_NOW, () -> x.sign(1));
            x.move(0, 0, 1, 0, 1);
            refused(x, NOT_NOW, () -> x.sign(1));
        });
        test("7: a copying move cannot be signed, even with one value left", x -> {
            twoRings(x);
            x.move(0, 0, 1, 0, 3);
            x.pass(1);
            equal(COPYING, x.moveOf(0, 5));
            refused(x, NOT_NOW, () -> x.sign(1));
            x.pass(1);
            undoable(x, 0, () -> x.sign(1));
        });
        test("7: a signed move cannot be signed again", x -> {
            twoRings(x);
            x.move(0, 0, 1, 0, 1);
            x.pass(1);
            undoable(x, 0, () -> x.sign(1));
            refused(x, NOT_NOW, () -> x.sign(1));
        });
        test("7: a ring does not sign moves from it", x -> {
            twoRings(x);
            x.move(0, 0, 1, 0, 1);
            x.pass(1);
            refused(x, NOT_NOW, () -> x.sign(0));
        });
    }

    private static void signedWhich() {
        test("7: the copied move with the lowest number, one alone", x -> {
            twoRings(x);
            x.move(1, 0, 0, 0, 1);
            x.move(0, 1, 1, 1, 1);
            x.move(0, 2, 1, 2, 1);
            x.pass(2);
            rows(row(COPIED, COPIED, COPIED), states(x));
            undoable(x, 1, () -> x.sign(1));
            rows(row(COPIED, SIGNED, COPIED), states(x));
            undoable(x, 2, () -> x.sign(1));
            refused(x, NOT_NOW, () -> x.sign(1));
        });
        test("7: the lowest number, not the one that was copied first", x -> {
            twoRings(x);
            x.move(0, 0, 1, 0, 3);
            x.move(0, 1, 1, 3, 1);
            x.pass(2);
            rows(row(1, 0), ofMoves(x, 8));
            undoable(x, 0, () -> x.sign(1));
        });
        test("7: a lower number that is still waiting or copying is passed over", x -> {
            twoRings(x);
            x.set(0, 1);
            x.move(0, 0, 1, 0, 3);
            x.move(1, 0, 1, 3, 1);
            x.move(0, 1, 1, 3, 1);
            x.set(1, 4);
            x.move(0, 2, 0, 3, 1);
            x.pass(1);
            rows(row(COPYING, WAITING, WAITING, COPIED), states(x));
            refused(x, NOT_NOW, () -> x.sign(1));
            undoable(x, 3, () -> x.sign(0));
        });
        test("7: signed by hand: the tick as it is then", x -> {
            twoRings(x);
            x.move(0, 0, 1, 0, 1);
            x.pass(1);
            undoable(x, 0, () -> x.sign(1));
            equal(1, x.moveOf(0, 9));
        });
        test("7: the 24th move can be signed", x -> {
            twoRings(x);
            for (int move = 0; move < 23; move++) {
                x.move(0, 0, 0, 0, 1);
            }
            x.move(0, 1, 1, 0, 1);
            x.pass(1);
            undoable(x, 23, () -> x.sign(1));
        });
    }

    private static void strike() {
        test("8: ring: 0 is one, -1 is none", x -> {
            twoRings(x);
            refused(x, NO_SUCH, () -> x.strike(-1, true));
            refused(x, NO_SUCH, () -> x.strike(LEAST, true));
            undoable(x, 0, () -> x.strike(0, true));
            rows(row(1, 0), row(x.ring(0, 3), x.ring(1, 3)));
        });
        test("8: ring: the last is one, the next is none", x -> {
            twoRings(x);
            refused(x, NO_SUCH, () -> x.strike(2, true));
            refused(x, NO_SUCH, () -> x.strike(GREATEST, true));
            undoable(x, 0, () -> x.strike(1, true));
            rows(row(0, 1), row(x.ring(0, 3), x.ring(1, 3)));
        });
        test("8: no such ring goes before: it is so already", x -> {
            twoRings(x);
            refused(x, NO_SUCH, () -> x.strike(2, false));
            refused(x, NO_SUCH, () -> x.strike(-1, false));
        });
        test("8: a ring that does not strike cannot end a strike", x -> {
            twoRings(x);
            refused(x, NOT_NOW, () -> x.strike(0, false));
            undoable(x, 0, () -> x.strike(0, true));
            undoable(x, 0, () -> x.strike(0, false));
            refused(x, NOT_NOW, () -> x.strike(0, false));
        });
        test("8: a ring that strikes cannot begin a strike", x -> {
            twoRings(x);
            undoable(x, 0, () -> x.strike(0, true));
            refused(x, NOT_NOW, () -> x.strike(0, true));
        });
    }

    private static void strikeAtWork() {
        test("8: it returns the copied moves to it that are not signed: no waiting one", x -> {
            twoRings(x);
            x.move(0, 0, 1, 0, 1);
            undoable(x, 0, () -> x.strike(1, true));
        });
        test("8: it returns the copied moves to it that are not signed: no copying one", x -> {
            twoRings(x);
            x.move(0, 0, 1, 0, 3);
            x.pass(1);
            undoable(x, 0, () -> x.strike(1, true));
            x.pass(1);
            undoable(x, 1, () -> x.strike(1, false));
        });
        test("8: it returns the copied moves to it that are not signed: no signed one", x -> {
            twoRings(x);
            x.move(0, 0, 1, 0, 1);
            x.move(0, 1, 1, 1, 1);
            x.pass(1);
            undoable(x, 2, () -> x.strike(1, true));
            undoable(x, 2, () -> x.strike(1, false));
            x.sign(1);
            undoable(x, 1, () -> x.strike(1, true));
        });
        test("8: it returns the copied moves to it that are not signed: none to another ring", x -> {
            twoRings(x);
            x.move(0, 0, 1, 0, 1);
            x.pass(1);
            undoable(x, 0, () -> x.strike(0, true));
        });
        test("8: a ring that strikes does not sign, however long", x -> {
            twoRings(x);
            x.setPatience(1, 1);
            x.move(0, 0, 1, 0, 1);
            x.pass(1);
            x.strike(1, true);
            undoable(x, 0, () -> x.pass(50));
            equal(COPIED, x.moveOf(0, 5));
            x.strike(1, false);
            undoable(x, 0, () -> x.pass(1));
            rows(row(SIGNED, 51), row(x.moveOf(0, 5), x.moveOf(0, 9)));
        });
        test("8: the strike of a source ring keeps nobody from signing", x -> {
            twoRings(x);
            x.setPatience(1, 1);
            x.move(0, 0, 1, 0, 1);
            x.strike(0, true);
            x.pass(2);
            equal(SIGNED, x.moveOf(0, 5));
        });
        test("8: moves to a ring that strikes are copied all the same", x -> {
            twoRings(x);
            x.strike(1, true);
            x.move(0, 0, 1, 0, 1);
            undoable(x, 1, () -> x.pass(1));
        });
    }

    /** Four moves from ring 0 to ring 1, all copied. */
    private static void fourCopied(Engine x) {
        twoRings(x);
        x.set(1, 4);
        for (int move = 0; move < 4; move++) {
            x.move(0, move, 1, move, 1);
        }
        x.pass(1);
    }

    private static void sweepHowMany() {
        test("10: without moves none, and a state is saved", x -> {
            undoable(x, 0, () -> x.sweep());
            equal(0, whole(x, 12));
        });
        test("10: a waiting, a copying or a copied move in front is not removed", x -> {
            twoRings(x);
            x.move(0, 0, 1, 0, 3);
            undoable(x, 0, () -> x.sweep());
            x.pass(1);
            undoable(x, 0, () -> x.sweep());
            x.pass(1);
            undoable(x, 0, () -> x.sweep());
            x.sign(1);
            undoable(x, 1, () -> x.sweep());
            undoable(x, 0, () -> x.sweep());
        });
        test("10: up to the first one that is not signed", x -> {
            fourCopied(x);
            x.sign(1);
            x.sign(1);
            undoable(x, 2, () -> x.sweep());
            equal(2, whole(x, 1));
            rows(row(2, 3), ofMoves(x, 1));
        });
        test("10: signed moves behind one that is not signed stay", x -> {
            twoRings(x);
            x.move(0, 0, 0, 1, 1);
            x.move(0, 2, 1, 0, 1);
            x.pass(1);
            x.sign(1);
            rows(row(COPIED, SIGNED), states(x));
            undoable(x, 0, () -> x.sweep());
            equal(2, whole(x, 1));
            x.sign(0);
            undoable(x, 2, () -> x.sweep());
        });
        test("10: all of them", x -> {
            fourCopied(x);
            for (int move = 0; move < 4; move++) {
                x.sign(1);
            }
            undoable(x, 4, () -> x.sweep());
            equal(0, whole(x, 1));
            refused(x, NO_SUCH, () -> x.moveOf(0, 0));
        });
        test("10: all of 24", x -> {
            twoRings(x);
            x.setPatience(1, 1);
            for (int move = 0; move < 24; move++) {
                x.move(0, 0, 1, move, 1);
            }
            x.pass(13);
            equal(24, whole(x, 5));
            undoable(x, 24, () -> x.sweep());
            equal(24, whole(x, 12));
            undoable(x, 0, () -> x.move(0, 0, 1, 0, 1));
        });
    }

    private static void sweepWhatStays() {
        test("10: the numbers of the others decrease by as many", x -> {
            fourCopied(x);
            x.move(1, 1, 0, 3, 1);
            x.sign(1);
            x.sign(1);
            x.sign(1);
            undoable(x, 3, () -> x.sweep());
            rows(row(0, 3, 1, 3, 1, COPIED, 1, 0, 0, NONE), moveRow(x, 0));
            rows(row(1, 1, 0, 3, 1, WAITING, 0, NONE, NONE, NONE), moveRow(x, 1));
            refused(x, NO_SUCH, () -> x.moveOf(2, 0));
        });
        test("10: what a move waits for has the new numbers", x -> {
            fourCopied(x);
            x.move(1, 0, 0, 2, 2);
            equal(0b1100, x.waitsFor(4));
            x.sign(1);
            x.sign(1);
            undoable(x, 2, () -> x.sweep());
            rows(row(0b11, 1), row(x.waitsFor(2), x.depth(2)));
        });
        test("10: a copying move keeps its hostages and goes on", x -> {
            twoRings(x);
            x.move(1, 0, 1, 0, 1);
            x.move(0, 0, 1, 1, 3);
            x.pass(1);
            x.sign(1);
            undoable(x, 1, () -> x.sweep());
            rows(row(3, NONE), row(x.hostage(0, 0), x.hostage(0, 1)));
            undoable(x, 1, () -> x.pass(1));
            rows(row(5, 1, 2, 3), cells(x, 4, 4));
        });
        test("10: a copying move keeps all hostages of sixteen", x -> {
            x.addRing(0, 16, 0);
            x.addRing(16, 16, 0);
            x.write(1, -999);
            x.write(15, 999);
            x.set(0, 1);
            x.move(1, 0, 1, 0, 1);
            x.pass(1);
            x.move(0, 0, 0, 0, 16);
            x.pass(1);
            x.sign(1);
            undoable(x, 1, () -> x.sweep());
            rows(row(-999, 0, 999, NONE), row(x.hostage(0, 0), x.hostage(0, 1), x.hostage(0, 14),
                    x.hostage(0, 15)));
            undoable(x, 1, () -> x.pass(15));
            rows(row(0, -999, 0), cells(x, 0, 3));
            equal(999, x.cell(15));
        });
        test("10: the memory and the totals of copied and signed moves stay", x -> {
            fourCopied(x);
            x.sign(1);
            undoable(x, 1, () -> x.sweep());
            rows(row(1, 2, 3, 4, 1, 2, 3, 4), cells(x, 0, 8));
            rows(row(4, 1, 1), row(whole(x, 10), whole(x, 11), whole(x, 12)));
        });
        test("10: swept in all: the sweeps are added", x -> {
            fourCopied(x);
            x.sign(1);
            x.sweep();
            x.sign(1);
            x.sign(1);
            undoable(x, 2, () -> x.sweep());
            equal(3, whole(x, 12));
        });
    }

    private static void moveOfNumbers() {
        test("13: move: 0 is one, -1 is none", x -> {
            twoRings(x);
            x.move(0, 7, 1, 8, 1);
            answers(x, 7, () -> x.moveOf(0, 1));
            refused(x, NO_SUCH, () -> x.moveOf(-1, 1));
            refused(x, NO_SUCH, () -> x.moveOf(LEAST, 1));
        });
        test("13: move: the last is one, the next is none", x -> {
            twoRings(x);
            x.move(0, 7, 1, 8, 1);
            x.move(0, 9, 1, 8, 1);
            answers(x, 9, () -> x.moveOf(1, 1));
            refused(x, NO_SUCH, () -> x.moveOf(2, 1));
            refused(x, NO_SUCH, () -> x.moveOf(GREATEST, 1));
        });
        test("13: move: the 24th is one, a 25th is none", x -> {
            twoRings(x);
            for (int move = 0; move < 24; move++) {
                x.move(0, move, 1, 0, 1);
            }
            answers(x, 23, () -> x.moveOf(23, 1));
            refused(x, NO_SUCH, () -> x.moveOf(24, 1));
        });
        test("13: move: one that is undone is none", x -> {
            twoRings(x);
            x.move(0, 7, 1, 8, 1);
            x.undo();
            refused(x, NO_SUCH, () -> x.moveOf(0, 1));
        });
        test("13: what: 0 is in range, -1 is not", x -> {
            twoRings(x);
            x.move(1, 7, 0, 8, 1);
            answers(x, 1, () -> x.moveOf(0, 0));
            refused(x, RANGE, () -> x.moveOf(0, -1));
            refused(x, RANGE, () -> x.moveOf(0, LEAST));
        });
        test("13: what: 9 is in range, 10 is not", x -> {
            twoRings(x);
            x.move(1, 7, 0, 8, 1);
            answers(x, NONE, () -> x.moveOf(0, 9));
            refused(x, RANGE, () -> x.moveOf(0, 10));
            refused(x, RANGE, () -> x.moveOf(0, GREATEST));
        });
        test("13: no such move goes before what", x -> {
            twoRings(x);
            refused(x, NO_SUCH, () -> x.moveOf(0, 10));
            x.move(1, 7, 0, 8, 1);
            refused(x, NO_SUCH, () -> x.moveOf(1, 10));
            refused(x, NO_SUCH, () -> x.moveOf(-1, -1));
        });
    }

    private static void moveOfValues() {
        test("13: the places are as they were told, not modulo the length", x -> {
            twoRings(x);
            x.move(0, 99, 1, 4, 1);
            rows(row(0, 99, 1, 4, 1), row(x.moveOf(0, 0), x.moveOf(0, 1), x.moveOf(0, 2), x.moveOf(0, 3),
                    x.moveOf(0, 4)));
        });
        test("13: its state: 0 waiting, 1 copying, 2 copied, 3 signed", x -> {
            twoRings(x);
            x.move(0, 0, 1, 0, 3);
            answers(x, 0, () -> x.moveOf(0, 5));
            x.pass(1);
            answers(x, 1, () -> x.moveOf(0, 5));
            x.pass(1);
            answers(x, 2, () -> x.moveOf(0, 5));
            x.sign(1);
            answers(x, 3, () -> x.moveOf(0, 5));
        });
        test("13: values that it has written: from none to all, which stay counted", x -> {
            twoRings(x);
            x.move(0, 0, 1, 0, 3);
            answers(x, 0, () -> x.moveOf(0, 6));
            x.pass(1);
            answers(x, 2, () -> x.moveOf(0, 6));
            x.pass(1);
            answers(x, 3, () -> x.moveOf(0, 6));
            x.sign(1);
            answers(x, 3, () -> x.moveOf(0, 6));
        });
        test("13: the tick in which it started: NONE before, 0 in the first tick", x -> {
            twoRings(x);
            x.move(0, 0, 1, 0, 3);
            answers(x, NONE, () -> x.moveOf(0, 7));
            x.pass(1);
            answers(x, 0, () -> x.moveOf(0, 7));
            x.pass(1);
            answers(x, 0, () -> x.moveOf(0, 7));
        });
        test("13: the tick in which it was copied: NONE while it copies", x -> {
            twoRings(x);
            x.move(0, 0, 1, 0, 3);
            x.pass(1);
            answers(x, NONE, () -> x.moveOf(0, 8));
            x.pass(1);
            answers(x, 1, () -> x.moveOf(0, 8));
        });
        test("13: the tick in which it was signed by itself: NONE while it is copied", x -> {
            twoRings(x);
            x.setPatience(1, 2);
            x.move(0, 0, 1, 0, 1);
            x.pass(2);
            answers(x, NONE, () -> x.moveOf(0, 9));
            x.pass(1);
            answers(x, 2, () -> x.moveOf(0, 9));
            x.pass(5);
            answers(x, 2, () -> x.moveOf(0, 9));
        });
        test("13: the tick in which it was signed by hand, which is one more than by itself in the last tick", x -> {
            twoRings(x);
            x.move(0, 0, 1, 0, 1);
            x.pass(3);
            x.sign(1);
            answers(x, 3, () -> x.moveOf(0, 9));
            x.pass(5);
            answers(x, 3, () -> x.moveOf(0, 9));
        });
        test("13: the last ticks", x -> {
            twoRings(x);
            passTo(x, 9998);
            x.move(0, 0, 1, 0, 1);
            x.pass(1);
            x.sign(1);
            rows(row(0, 0, 1, 0, 1, SIGNED, 1, 9998, 9998, 9999), moveRow(x, 0));
        });
    }

    private static void hostageNumbers() {
        test("14: move: 0 is one, -1 is none", x -> {
            twoRings(x);
            x.move(0, 0, 1, 0, 3);
            x.pass(1);
            answers(x, 3, () -> x.hostage(0, 0));
            refused(x, NO_SUCH, () -> x.hostage(-1, 0));
            refused(x, NO_SUCH, () -> x.hostage(LEAST, 0));
        });
        test("14: move: the last is one, the next is none", x -> {
            twoRings(x);
            x.move(1, 3, 1, 3, 1);
            x.move(0, 0, 1, 0, 3);
            x.pass(1);
            answers(x, 3, () -> x.hostage(1, 0));
            refused(x, NO_SUCH, () -> x.hostage(2, 0));
            refused(x, NO_SUCH, () -> x.hostage(GREATEST, 0));
        });
        test("14: index: 0 is in range, -1 is not", x -> {
            twoRings(x);
            x.move(0, 0, 1, 0, 3);
            x.pass(1);
            answers(x, 3, () -> x.hostage(0, 0));
            refused(x, RANGE, () -> x.hostage(0, -1));
            refused(x, RANGE, () -> x.hostage(0, -2));
            refused(x, RANGE, () -> x.hostage(0, LEAST));
        });
        test("14: index: the last value, and NONE behind it, however far", x -> {
            twoRings(x);
            x.set(0, 1);
            x.move(0, 0, 1, 0, 4);
            x.pass(1);
            answers(x, 2, () -> x.hostage(0, 0));
            answers(x, 3, () -> x.hostage(0, 1));
            answers(x, 4, () -> x.hostage(0, 2));
            answers(x, NONE, () -> x.hostage(0, 3));
            answers(x, NONE, () -> x.hostage(0, 4));
            answers(x, NONE, () -> x.hostage(0, 16));
            answers(x, NONE, () -> x.hostage(0, GREATEST));
        });
        test("14: a negative index goes before NONE", x -> {
            twoRings(x);
            x.move(0, 0, 1, 0, 1);
            refused(x, RANGE, () -> x.hostage(0, -1));
            x.pass(1);
            refused(x, RANGE, () -> x.hostage(0, -1));
            x.sign(1);
            refused(x, RANGE, () -> x.hostage(0, -1));
        });
        test("14: no such move goes before a negative index and before NONE", x -> {
            twoRings(x);
            refused(x, NO_SUCH, () -> x.hostage(0, -1));
            refused(x, NO_SUCH, () -> x.hostage(0, 99));
            refused(x, NO_SUCH, () -> x.hostage(-1, -1));
        });
    }

    private static void hostageStates() {
        test("14: a waiting move has taken nothing", x -> {
            twoRings(x);
            x.move(0, 0, 1, 0, 4);
            answers(x, NONE, () -> x.hostage(0, 0));
        });
        test("14: a copying move: as many as are left, to the last", x -> {
            twoRings(x);
            x.set(0, 1);
            x.move(0, 2, 1, 0, 3);
            x.pass(1);
            rows(row(4, 1, NONE), row(x.hostage(0, 0), x.hostage(0, 1), x.hostage(0, 2)));
            x.pass(1);
            rows(row(1, NONE), row(x.hostage(0, 0), x.hostage(0, 1)));
        });
        test("14: a copied move has none left", x -> {
            twoRings(x);
            x.move(0, 0, 1, 0, 2);
            x.pass(1);
            answers(x, NONE, () -> x.hostage(0, 0));
        });
        test("14: a signed move has none left", x -> {
            twoRings(x);
            x.move(0, 0, 1, 0, 2);
            x.pass(1);
            x.sign(1);
            answers(x, NONE, () -> x.hostage(0, 0));
        });
        test("14: fifteen hostages of sixteen", x -> {
            x.addRing(0, 16, 0);
            x.addRing(16, 16, 0);
            x.write(1, -999);
            x.write(15, 999);
            x.set(0, 1);
            x.move(0, 0, 1, 0, 16);
            x.pass(1);
            answers(x, -999, () -> x.hostage(0, 0));
            answers(x, 999, () -> x.hostage(0, 14));
            answers(x, NONE, () -> x.hostage(0, 15));
        });
    }

    private static void cellSet() {
        test("15: move: 0 is one, -1 is none", x -> {
            twoRings(x);
            x.move(0, 0, 1, 0, 1);
            answers(x, 0b1, () -> x.cellSet(0, false));
            answers(x, 0b10000, () -> x.cellSet(0, true));
            for (int move : new int[] {-1, LEAST}) {
                refused(x, NO_SUCH, () -> x.cellSet(move, false));
                refused(x, NO_SUCH, () -> x.cellSet(move, true));
            }
        });
        test("15: move: the last is one, the next is none", x -> {
            twoRings(x);
            x.move(0, 0, 1, 0, 1);
            x.move(0, 1, 1, 1, 1);
            answers(x, 0b10, () -> x.cellSet(1, false));
            answers(x, 0b100000, () -> x.cellSet(1, true));
            for (int move : new int[] {2, GREATEST}) {
                refused(x, NO_SUCH, () -> x.cellSet(move, false));
                refused(x, NO_SUCH, () -> x.cellSet(move, true));
            }
        });
        test("15: bit c for the cell c: the cells 0, 31, 32 and 47", x -> {
            x.addRing(0, 2, 0);
            x.addRing(31, 2, 0);
            x.addRing(46, 2, 0);
            x.move(0, 0, 1, 0, 1);
            x.move(1, 1, 2, 1, 1);
            answers(x, 1L, () -> x.cellSet(0, false));
            answers(x, 1L << 31, () -> x.cellSet(0, true));
            answers(x, 1L << 32, () -> x.cellSet(1, false));
            answers(x, 1L << 47, () -> x.cellSet(1, true));
        });
        test("15: a set round the end of a ring, and a whole ring", x -> {
            x.addRing(0, 16, 0);
            x.addRing(32, 16, 0);
            x.move(0, 15, 1, 14, 3);
            x.move(0, 99, 1, 16, 16);
            answers(x, 0x8003L, () -> x.cellSet(0, false));
            answers(x, 0xc001L << 32, () -> x.cellSet(0, true));
            answers(x, 0xffffL, () -> x.cellSet(1, false));
            answers(x, 0xffffL << 32, () -> x.cellSet(1, true));
        });
        test("15: the sets are the same in each state", x -> {
            twoRings(x);
            x.move(0, 1, 1, 2, 3);
            x.pass(1);
            rows(row(0b1110, 0b11010000), row(x.cellSet(0, false), x.cellSet(0, true)));
            x.pass(1);
            rows(row(0b1110, 0b11010000), row(x.cellSet(0, false), x.cellSet(0, true)));
            x.sign(1);
            rows(row(0b1110, 0b11010000), row(x.cellSet(0, false), x.cellSet(0, true)));
        });
    }

    private static void held() {
        test("16: no cell without moves, and none by a waiting move", x -> {
            twoRings(x);
            answers(x, 0, () -> x.held());
            x.move(0, 0, 1, 0, 3);
            answers(x, 0, () -> x.held());
        });
        test("16: all source cells from the start on, also those written already", x -> {
            twoRings(x);
            x.set(0, 1);
            x.move(0, 1, 1, 0, 3);
            x.pass(1);
            answers(x, 0b1110, () -> x.held());
            x.pass(1);
            answers(x, 0b1110, () -> x.held());
        });
        test("16: by a copied move until it is signed", x -> {
            twoRings(x);
            x.move(0, 1, 1, 0, 2);
            x.pass(50);
            answers(x, 0b110, () -> x.held());
            x.sign(1);
            answers(x, 0, () -> x.held());
        });
        test("16: no target cells", x -> {
            twoRings(x);
            x.move(0, 0, 0, 1, 1);
            x.pass(1);
            answers(x, 0b1, () -> x.held());
        });
        test("16: a cell that two moves hold is held until both are signed", x -> {
            twoRings(x);
            x.move(0, 0, 1, 0, 2);
            x.move(0, 1, 1, 2, 2);
            x.pass(1);
            answers(x, 0b111, () -> x.held());
            equal(3, whole(x, 9));
            x.sign(1);
            answers(x, 0b110, () -> x.held());
            x.sign(1);
            answers(x, 0, () -> x.held());
        });
        test("16: bit c for the cell c: the cells 0, 31, 32 and 47", x -> {
            x.addRing(0, 2, 0);
            x.addRing(31, 2, 0);
            x.addRing(46, 2, 0);
            x.set(1, 4);
            x.move(0, 0, 0, 1, 1);
            x.move(1, 0, 0, 1, 1);
            x.pass(2);
            answers(x, 1L << 31 | 1L, () -> x.held());
            x.move(1, 1, 0, 1, 1);
            x.move(2, 1, 2, 0, 1);
            x.pass(1);
            answers(x, 1L << 47 | 1L << 32 | 1L << 31 | 1L, () -> x.held());
            equal(4, whole(x, 9));
        });
        test("16: all 48 cells", x -> {
            for (int ring = 0; ring < 3; ring++) {
                x.addRing(16 * ring, 16, 0);
            }
            x.set(1, 3);
            for (int ring = 0; ring < 3; ring++) {
                x.move(ring, 0, ring, 0, 16);
            }
            x.pass(1);
            answers(x, (1L << 48) - 1, () -> x.held());
            equal(48, whole(x, 9));
        });
        test("16: not by a swept move", x -> {
            twoRings(x);
            x.move(0, 0, 1, 0, 1);
            x.move(0, 3, 1, 3, 1);
            x.pass(1);
            x.sign(1);
            x.sweep();
            answers(x, 0b1000, () -> x.held());
        });
    }
}
