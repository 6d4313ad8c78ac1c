import java.util.Random;

/**
 * Sentences of the document that bind its promises together: the memory is left as if the moves were done in their
 * order, and what the questions foretell comes true. In random objects, always the same ones.
 */
final class ForetoldTests {
    private static final int OBJECTS = 300;
    private static final int CELLS = 48;

    /** What an object was told, in the order in which it was told; made anew, it is a twin. */
    private static final class Story {
        final Random random;
        final HostageRings x = new HostageRings();
        final int[] memory = new int[CELLS];
        final int[] first = new int[6];
        final int[] length = new int[6];
        final int rings;
        int moves = 0;

        Story(long seed) {
            random = new Random(seed);
            for (int cell = 0; cell < CELLS; cell++) {
                memory[cell] = random.nextInt(1999) - 999;
                x.write(cell, memory[cell]);
            }
            rings = 1 + random.nextInt(6);
            int patient = random.nextInt(4);
            for (int ring = 0; ring < rings; ring++) {
                first[ring] = 8 * ring;
                length[ring] = 2 + random.nextInt(7);
                x.addRing(first[ring], length[ring], random.nextInt(4) < patient ? 1 + random.nextInt(50) : 0);
            }
            x.set(0, 1 + random.nextInt(4));
            x.set(1, 1 + random.nextInt(4));
            tellMoves();
        }

        private void tellMoves() {
            int many = 1 + random.nextInt(24);
            int haste = 1 + random.nextInt(8);
            while (moves < many) {
                tellMove();
                if (random.nextInt(haste) == 0) {
                    x.pass(1 + random.nextInt(3));
                }
                int ring = random.nextInt(rings);
                if (random.nextInt(6) == 0) {
                    x.strike(ring, x.ring(ring, 3) == 0);
                }
            }
        }

        /** A move; in the memory of the story, which knows no ticks, it is done at once. */
        private void tellMove() {
            int from = random.nextInt(rings);
            int to = random.nextInt(rings);
            int fromPlace = random.nextInt(100);
            int toPlace = random.nextInt(100);
            int count = 1 + random.nextInt(Math.min(length[from], length[to]));
            Check.equal("number of the move", moves, x.move(from, fromPlace, to, toPlace, count));
            moves++;
            int[] taken = new int[count];
            for (int k = 0; k < count; k++) {
                taken[k] = memory[first[from] + (fromPlace + k) % length[from]];
            }
            for (int k = 0; k < count; k++) {
                memory[first[to] + (toPlace + k) % length[to]] = taken[k];
            }
        }

        /** Ends all strikes, then lets ticks pass and rings sign by hand until all is signed. */
        void finish() {
            for (int ring = 0; ring < rings; ring++) {
                if (x.ring(ring, 3) == 1) {
                    x.strike(ring, false);
                }
            }
            for (int turn = 0; turn <= moves && x.whole(5) < moves; turn++) {
                x.pass(20);
                for (int ring = 0; ring < rings; ring++) {
                    for (int copied = x.ring(ring, 6); copied > 0; copied--) {
                        x.sign(ring);
                    }
                }
            }
        }

        void passLong(int ticks) {
            int left = ticks;
            for (; left > 50; left -= 50) {
                x.pass(50);
            }
            if (left > 0) {
                x.pass(left);
            }
        }
    }

    private interface Look {
        void at(long seed);
    }

    private ForetoldTests() {
    }

    static void all() {
        test("the memory is left as if the moves were done in their order", ForetoldTests::memoryInOrder);
        test("finalValue: what the memory will be", ForetoldTests::finalValues);
        test("copiedIn: just in that tick", ForetoldTests::copiedIn);
        test("stuck: none starts in 60 ticks, otherwise one does", ForetoldTests::stuck);
        test("waitsFor: a move that waits does not start before those end that it waits for",
                ForetoldTests::waitsFor);
        test("held: a cell keeps its value as long as a move holds it that does not write it itself",
                ForetoldTests::heldCells);
    }

    private static void test(String name, Look look) {
        Check.test("foretold: " + name, () -> {
            for (long seed = 0; seed < OBJECTS; seed++) {
                look.at(seed);
            }
        });
    }

    private static void memoryInOrder(long seed) {
        Story story = new Story(seed);
        story.finish();
        Check.equal("signed moves, seed " + seed, story.moves, story.x.whole(5));
        for (int cell = 0; cell < CELLS; cell++) {
            Check.equal("cell " + cell + ", seed " + seed, story.memory[cell], story.x.cell(cell));
        }
    }

    private static void finalValues(long seed) {
        Story story = new Story(seed);
        for (int cell = 0; cell < CELLS; cell++) {
            Check.equal("cell " + cell + ", seed " + seed, story.memory[cell], story.x.finalValue(cell));
        }
    }

    private static void copiedIn(long seed) {
        int moves = new Story(seed).moves;
        for (int move = 0; move < moves; move++) {
            Story story = new Story(seed);
            int ticks = story.x.copiedIn(move);
            String what = "move " + move + ", seed " + seed + ", foretold " + ticks;
            if (ticks == 0) {
                Check.isTrue(what, story.x.moveOf(move, 5) >= 2);
            } else if (ticks == HostageRings.NONE) {
                story.passLong(300);
                Check.isTrue(what, story.x.moveOf(move, 5) < 2);
            } else {
                story.passLong(ticks - 1);
                Check.isTrue(what, story.x.moveOf(move, 5) < 2);
                story.x.pass(1);
                Check.equal(what, 2, story.x.moveOf(move, 5));
            }
        }
    }

    private static void stuck(long seed) {
        Story story = new Story(seed);
        story.passLong(20 + (int) seed % 60);
        int waiting = story.x.whole(2);
        int copying = story.x.whole(3);
        int stuck = story.x.stuck();
        story.passLong(60);
        int due = waiting > 0 && copying == 0 && story.x.whole(2) == waiting ? 1 : 0;
        Check.equal("stuck, seed " + seed, due, stuck);
    }

    private static void waitsFor(long seed) {
        Story story = new Story(seed);
        int[] waited = new int[story.moves];
        for (int move = 0; move < story.moves; move++) {
            waited[move] = story.x.waitsFor(move);
        }
        story.finish();
        int[] copied = new int[story.moves];
        for (int move = 0; move < story.moves; move++) {
            int started = story.x.moveOf(move, 7);
            copied[move] = story.x.moveOf(move, 8);
            for (int earlier = 0; earlier < story.moves; earlier++) {
                if ((waited[move] >> earlier & 1) == 1) {
                    Check.isTrue("move " + move + " after " + earlier + ", seed " + seed,
                            earlier < move && started > copied[earlier]);
                }
            }
        }
    }

    private static void heldCells(long seed) {
        Story story = new Story(seed);
        int[] before = cells(story.x);
        long[] keeps = new long[story.moves];
        for (int move = 0; move < story.moves; move++) {
            keeps[move] = keptBy(story.x, move);
        }
        story.x.pass(2);
        int[] after = cells(story.x);
        long held = story.x.held();
        for (int move = 0; move < story.moves; move++) {
            long kept = story.x.moveOf(move, 5) < 3 ? keeps[move] : 0;
            Check.equal("held by move " + move + ", seed " + seed, kept, kept & held);
            for (int cell = 0; cell < CELLS; cell++) {
                if ((kept >> cell & 1) == 1) {
                    Check.equal("cell " + cell + ", seed " + seed, before[cell], after[cell]);
                }
            }
        }
    }

    private static int[] cells(HostageRings x) {
        int[] row = new int[CELLS];
        for (int cell = 0; cell < CELLS; cell++) {
            row[cell] = x.cell(cell);
        }
        return row;
    }

    /** The cells that a move holds, and that it does not write itself any more. */
    private static long keptBy(HostageRings x, int move) {
        int state = x.moveOf(move, 5);
        if (state == 2) {
            return x.cellSet(move, false);
        }
        return state == 1 ? x.cellSet(move, false) & ~x.cellSet(move, true) : 0;
    }
}
