/**
 * A copy engine for rings of cells, as ../shared/DOC.md promises it.
 *
 * Every row and every state is made once, in the constructor, and used again by all calls: the room that a run of
 * calls has is never given back. A call is looked at in full before it changes anything, so that one that throws
 * leaves all as it was.
 */
public final class HostageRings {
    public static final int NONE = -1000;

    private static final int CELLS = 48;
    private static final int GREATEST_VALUE = 999;
    private static final int MOST_RINGS = 6;
    private static final int SHORTEST_RING = 2;
    private static final int LONGEST_RING = 16;
    private static final int GREATEST_PATIENCE = 50;
    private static final int MOST_MOVES = 24;
    private static final int GREATEST_PLACE = 99;
    private static final int FASTEST = 8;
    private static final int MOST_LANES = 4;
    private static final int MOST_TICKS = 50;
    private static final int LAST_TICK = 9999;
    private static final int MOST_SAVED = 4;
    private static final int MOST_BYTES = 150;
    private static final int GREATEST_BYTE = 127;
    private static final int MOST_NUMBERS = 5;
    private static final int MOST_DIGITS = 3;

    private static final int TICKS_AHEAD_COPIED = 300;
    private static final int TICKS_AHEAD_STUCK = 60;

    private static final int LAST_OF_RING = 7;
    private static final int LAST_OF_MOVE = 9;
    private static final int LAST_OF_WHOLE = 14;
    private static final int WHOLE_TEXT = 14;

    private static final int WAITING = 0;
    private static final int COPYING = 1;
    private static final int COPIED = 2;
    private static final int SIGNED = 3;

    private static final int FINE = 0;
    private static final int NO_SUCH = 1;
    private static final int OUT_OF_RANGE = 2;
    private static final int NOT_NOW = 3;

    private static final int NO_FAULT = -1;
    private static final int FAULTY_TEXT = -10;

    private static final long DIGEST_START = 43476L;

    private static final Word[] WORDS = Word.values();

    private final State state;
    private final State trial;
    private final History history;
    private final CommandText text;

    public HostageRings() {
        state = new State();
        trial = new State();
        history = new History();
        text = new CommandText();
    }

    // ---- rings and memory

    public int addRing(int first, int length, int patience)
            throws IndexOutOfBoundsException, IllegalArgumentException, IllegalStateException {
        refuse(state.ringRefusal(first, length, patience));
        history.save(state);
        return state.putRing(first, length, patience);
    }

    public int setPatience(int ring, int patience) throws IndexOutOfBoundsException, IllegalArgumentException {
        refuse(state.patienceRefusal(ring, patience));
        history.save(state);
        return state.putPatience(ring, patience);
    }

    public int set(int what, int value) throws IllegalArgumentException {
        refuse(State.settingRefusal(what, value));
        history.save(state);
        return state.putSetting(what, value);
    }

    public int write(int cell, int value)
            throws IndexOutOfBoundsException, IllegalArgumentException, IllegalStateException {
        refuse(state.valueRefusal(cell, value));
        history.save(state);
        return state.putValue(cell, value);
    }

    // ---- moves

    public int move(int from, int fromPlace, int to, int toPlace, int count)
            throws IndexOutOfBoundsException, IllegalArgumentException, IllegalStateException {
        refuse(state.moveRefusal(from, fromPlace, to, toPlace, count));
        history.save(state);
        return state.putMove(from, fromPlace, to, toPlace, count);
    }

    public int sign(int ring) throws IndexOutOfBoundsException, IllegalStateException {
        refuse(state.signRefusal(ring));
        history.save(state);
        return state.signFirst(ring);
    }

    public int strike(int ring, boolean strikes) throws IndexOutOfBoundsException, IllegalStateException {
        refuse(state.strikeRefusal(ring, strikes));
        history.save(state);
        return state.putStrike(ring, strikes);
    }

    public int pass(int ticks) throws IllegalArgumentException, IllegalStateException {
        refuse(state.passRefusal(ticks));
        history.save(state);
        return state.letPass(ticks);
    }

    public int sweep() {
        history.save(state);
        return state.dropSigned();
    }

    // ---- values

    public int cell(int cell) throws IndexOutOfBoundsException {
        requireCell(cell);
        return state.cells[cell];
    }

    public int ring(int ring, int what) throws IndexOutOfBoundsException, IllegalArgumentException {
        if (!state.hasRing(ring)) {
            throw new IndexOutOfBoundsException("no such ring");
        }
        requireRange(what, LAST_OF_RING);
        return state.ringPart(ring, what);
    }

    public int moveOf(int move, int what) throws IndexOutOfBoundsException, IllegalArgumentException {
        requireMove(move);
        requireRange(what, LAST_OF_MOVE);
        return state.moves[move].part(what);
    }

    public int hostage(int move, int index) throws IndexOutOfBoundsException, IllegalArgumentException {
        requireMove(move);
        if (index < 0) {
            throw new IllegalArgumentException("negative index");
        }
        return state.moves[move].hostageAt(index);
    }

    public long cellSet(int move, boolean target) throws IndexOutOfBoundsException {
        requireMove(move);
        return target ? state.moves[move].targets : state.moves[move].sources;
    }

    public long held() {
        return state.heldCells();
    }

    public int whole(int what) throws IllegalArgumentException {
        requireRange(what, LAST_OF_WHOLE);
        return wholePart(what);
    }

    // ---- what if, which changes nothing

    public int reason(int cell) throws IndexOutOfBoundsException {
        requireCell(cell);
        return state.barOf(cell);
    }

    public int waitsFor(int move) throws IndexOutOfBoundsException {
        requireMove(move);
        return state.waitedFor(move);
    }

    public int depth(int move) throws IndexOutOfBoundsException {
        requireMove(move);
        return state.depthOf(move);
    }

    public int finalValue(int cell) throws IndexOutOfBoundsException {
        requireCell(cell);
        tryFinish();
        return trial.cells[cell];
    }

    public int copiedIn(int move) throws IndexOutOfBoundsException {
        requireMove(move);
        if (state.moves[move].phase >= COPIED) {
            return 0;
        }
        trial.copyFrom(state);
        for (int ticks = 1; ticks <= TICKS_AHEAD_COPIED; ticks++) {
            trial.passTick();
            if (trial.moves[move].phase >= COPIED) {
                return ticks;
            }
        }
        return NONE;
    }

    public int stuck() {
        int waiting = state.countIn(WAITING);
        if (waiting == 0 || state.countIn(COPYING) > 0) {
            return 0;
        }
        trial.copyFrom(state);
        trial.letPass(TICKS_AHEAD_STUCK);
        return trial.countIn(WAITING) == waiting ? 1 : 0;
    }

    // ---- command text, undo and checksum

    public int type(int value) throws IllegalArgumentException, IllegalStateException {
        requireRange(value, GREATEST_BYTE);
        if (text.length >= MOST_BYTES) {
            throw new IllegalStateException("the command text is full");
        }
        return text.append(value);
    }

    public int clearCommands() {
        int length = text.length;
        text.length = 0;
        return length;
    }

    public int runCommands() {
        int fault = text.findFault();
        if (fault != NO_FAULT) {
            return FAULTY_TEXT - fault;
        }
        history.save(state);
        text.rewind();
        int done = 0;
        while (done < MOST_BYTES && text.readCommand() && carryOut(text.word, text.numbers)) {
            done++;
        }
        return done;
    }

    public int undo() throws IllegalStateException {
        if (history.count < 1) {
            throw new IllegalStateException("nothing to undo");
        }
        return history.restore(state);
    }

    public long digest() {
        long h = 31 * DIGEST_START + history.count;
        for (int what = 0; what <= LAST_OF_WHOLE; what++) {
            h = 31 * h + wholePart(what);
        }
        h = digestCells(h);
        h = digestRings(h);
        h = digestMoves(h);
        return 31 * h + state.heldCells();
    }

    private long digestCells(long start) {
        tryFinish();
        long h = start;
        for (int cell = 0; cell < CELLS; cell++) {
            h = 31 * h + state.cells[cell];
            h = 31 * h + trial.cells[cell];
        }
        return h;
    }

    private long digestRings(long start) {
        long h = start;
        for (int ring = 0; ring < state.ringCount; ring++) {
            for (int what = 0; what <= LAST_OF_RING; what++) {
                h = 31 * h + state.ringPart(ring, what);
            }
        }
        return h;
    }

    private long digestMoves(long start) {
        long h = start;
        for (int number = 0; number < state.moveCount; number++) {
            Move move = state.moves[number];
            for (int what = 0; what <= LAST_OF_MOVE; what++) {
                h = 31 * h + move.part(what);
            }
            int hostages = move.countHostages();
            for (int index = 0; index < hostages; index++) {
                h = 31 * h + move.hostageAt(index);
            }
            h = 31 * h + state.waitedFor(number);
            h = 31 * h + state.depthOf(number);
        }
        return h;
    }

    private int wholePart(int what) {
        return what == WHOLE_TEXT ? text.length : state.wholePart(what);
    }

    private void tryFinish() {
        trial.copyFrom(state);
        trial.finishMoves();
    }

    /** Does one command, or nothing if its call would throw; tells whether it was done. */
    private boolean carryOut(Word word, int[] n) {
        if (commandRefusal(word, n) != FINE) {
            return false;
        }
        switch (word) {
            case RING:
                state.putRing(n[0], n[1], n[2]);
                break;
            case MOVE:
                state.putMove(n[0], n[1], n[2], n[3], n[4]);
                break;
            case SIGN:
                state.signFirst(n[0]);
                break;
            case STRIKE:
                state.putStrike(n[0], true);
                break;
            case WORK:
                state.putStrike(n[0], false);
                break;
            case PUT:
                state.putValue(n[0], n[1]);
                break;
            case SET:
                state.putSetting(n[0], n[1]);
                break;
            case TICKS:
                state.letPass(n[0]);
                break;
        }
        return true;
    }

    private int commandRefusal(Word word, int[] n) {
        switch (word) {
            case RING:
                return state.ringRefusal(n[0], n[1], n[2]);
            case MOVE:
                return state.moveRefusal(n[0], n[1], n[2], n[3], n[4]);
            case SIGN:
                return state.signRefusal(n[0]);
            case STRIKE:
                return state.strikeRefusal(n[0], true);
            case WORK:
                return state.strikeRefusal(n[0], false);
            case PUT:
                return state.valueRefusal(n[0], n[1]);
            case SET:
                return State.settingRefusal(n[0], n[1]);
            case TICKS:
                return state.passRefusal(n[0]);
        }
        return NO_SUCH;
    }

    private static void refuse(int refusal) {
        if (refusal == NO_SUCH) {
            throw new IndexOutOfBoundsException("no such ring or cell");
        }
        if (refusal == OUT_OF_RANGE) {
            throw new IllegalArgumentException("out of range");
        }
        if (refusal == NOT_NOW) {
            throw new IllegalStateException("not as things stand");
        }
    }

    private static void requireCell(int cell) {
        if (!isCell(cell)) {
            throw new IndexOutOfBoundsException("no such cell");
        }
    }

    private void requireMove(int move) {
        if (move < 0 || move >= state.moveCount) {
            throw new IndexOutOfBoundsException("no such move");
        }
    }

    private static void requireRange(int value, int greatest) {
        if (!isWithin(value, 0, greatest)) {
            throw new IllegalArgumentException("out of range");
        }
    }

    private static boolean isCell(int cell) {
        return isWithin(cell, 0, CELLS - 1);
    }

    private static boolean isWithin(int value, int least, int greatest) {
        return value >= least && value <= greatest;
    }

    private static final class Ring {
        int first;
        int length;
        int patience;
        boolean strikes;

        void copyFrom(Ring other) {
            first = other.first;
            length = other.length;
            patience = other.patience;
            strikes = other.strikes;
        }

        int cellAt(int place) {
            // A ring that was added is never this short; but no divisor is trusted.
            if (length < SHORTEST_RING) {
                return first;
            }
            return first + place % length;
        }

        long cellsFrom(int place, int count) {
            long cells = 0;
            for (int k = 0; k < count; k++) {
                cells |= 1L << cellAt(place + k);
            }
            return cells;
        }
    }

    private static final class Move {
        int from;
        int fromPlace;
        int to;
        int toPlace;
        int count;
        long sources;
        long targets;
        int phase;
        int written;
        int started;
        int copied;
        int signed;
        final int[] taken = new int[LONGEST_RING];

        void copyFrom(Move other) {
            from = other.from;
            fromPlace = other.fromPlace;
            to = other.to;
            toPlace = other.toPlace;
            count = other.count;
            sources = other.sources;
            targets = other.targets;
            phase = other.phase;
            written = other.written;
            started = other.started;
            copied = other.copied;
            signed = other.signed;
            System.arraycopy(other.taken, 0, taken, 0, LONGEST_RING);
        }

        boolean holds() {
            return phase == COPYING || phase == COPIED;
        }

        int part(int what) {
            switch (what) {
                case 0:
                    return from;
                case 1:
                    return fromPlace;
                case 2:
                    return to;
                case 3:
                    return toPlace;
                case 4:
                    return count;
                case 5:
                    return phase;
                case 6:
                    return written;
                case 7:
                    return started;
                case 8:
                    return copied;
                default:
                    return signed;
            }
        }

        int countHostages() {
            return phase == COPYING ? count - written : 0;
        }

        int hostageAt(int index) {
            if (index < 0 || index >= countHostages()) {
                return NONE;
            }
            return taken[written + index];
        }

        /** Tells whether this move, while it is waiting, waits for an earlier one. */
        boolean waitsBehind(Move earlier) {
            if (earlier.phase != SIGNED && (earlier.sources & targets) != 0) {
                return true;
            }
            return earlier.phase <= COPYING && (earlier.targets & (sources | targets)) != 0;
        }
    }

    /** All that undo brings back. */
    private static final class State {
        final int[] cells = new int[CELLS];
        final Ring[] rings = new Ring[MOST_RINGS];
        final Move[] moves = new Move[MOST_MOVES];
        // A row to reckon in, no part of the state.
        final int[] depths = new int[MOST_MOVES];
        int ringCount;
        int moveCount;
        int speed = 2;
        int lanes = 2;
        int tick;
        int copiedInAll;
        int signedInAll;
        int sweptInAll;

        State() {
            for (int ring = 0; ring < MOST_RINGS; ring++) {
                rings[ring] = new Ring();
            }
            for (int move = 0; move < MOST_MOVES; move++) {
                moves[move] = new Move();
            }
        }

        void copyFrom(State other) {
            System.arraycopy(other.cells, 0, cells, 0, CELLS);
            ringCount = other.ringCount;
            for (int ring = 0; ring < ringCount; ring++) {
                rings[ring].copyFrom(other.rings[ring]);
            }
            moveCount = other.moveCount;
            for (int move = 0; move < moveCount; move++) {
                moves[move].copyFrom(other.moves[move]);
            }
            speed = other.speed;
            lanes = other.lanes;
            tick = other.tick;
            copiedInAll = other.copiedInAll;
            signedInAll = other.signedInAll;
            sweptInAll = other.sweptInAll;
        }

        boolean hasRing(int ring) {
            return ring >= 0 && ring < ringCount;
        }

        int ringRefusal(int first, int length, int patience) {
            if (!isCell(first)) {
                return NO_SUCH;
            }
            if (!isWithin(length, SHORTEST_RING, LONGEST_RING) || !isWithin(patience, 0, GREATEST_PATIENCE)
                    || first + length > CELLS) {
                return OUT_OF_RANGE;
            }
            return ringCount >= MOST_RINGS || meetsRing(first, length) ? NOT_NOW : FINE;
        }

        boolean meetsRing(int first, int length) {
            for (int number = 0; number < ringCount; number++) {
                Ring ring = rings[number];
                if (first < ring.first + ring.length && ring.first < first + length) {
                    return true;
                }
            }
            return false;
        }

        int putRing(int first, int length, int patience) {
            Ring ring = rings[ringCount];
            ring.first = first;
            ring.length = length;
            ring.patience = patience;
            ring.strikes = false;
            ringCount++;
            return ringCount - 1;
        }

        int patienceRefusal(int ring, int patience) {
            if (!hasRing(ring)) {
                return NO_SUCH;
            }
            return isWithin(patience, 0, GREATEST_PATIENCE) ? FINE : OUT_OF_RANGE;
        }

        int putPatience(int ring, int patience) {
            int previous = rings[ring].patience;
            rings[ring].patience = patience;
            return previous;
        }

        static int settingRefusal(int what, int value) {
            if (!isWithin(what, 0, 1)) {
                return OUT_OF_RANGE;
            }
            return isWithin(value, 1, what == 0 ? FASTEST : MOST_LANES) ? FINE : OUT_OF_RANGE;
        }

        int putSetting(int what, int value) {
            int previous = what == 0 ? speed : lanes;
            if (what == 0) {
                speed = value;
            } else {
                lanes = value;
            }
            return previous;
        }

        int valueRefusal(int cell, int value) {
            if (!isCell(cell)) {
                return NO_SUCH;
            }
            if (!isWithin(value, -GREATEST_VALUE, GREATEST_VALUE)) {
                return OUT_OF_RANGE;
            }
            return barOf(cell) == 0 ? FINE : NOT_NOW;
        }

        int putValue(int cell, int value) {
            int previous = cells[cell];
            cells[cell] = value;
            return previous;
        }

        /** The reason why a cell cannot be written by hand, 0 if there is none. */
        int barOf(int cell) {
            long bit = 1L << cell;
            if ((heldCells() & bit) != 0) {
                return 1;
            }
            long awaited = 0;
            long overwritten = 0;
            for (int number = 0; number < moveCount; number++) {
                Move move = moves[number];
                if (move.phase == WAITING) {
                    awaited |= move.sources | move.targets;
                }
                if (move.phase == COPYING) {
                    overwritten |= move.targets;
                }
            }
            if ((awaited & bit) != 0) {
                return 2;
            }
            return (overwritten & bit) != 0 ? 3 : 0;
        }

        int moveRefusal(int from, int fromPlace, int to, int toPlace, int count) {
            if (!hasRing(from) || !hasRing(to)) {
                return NO_SUCH;
            }
            if (!isWithin(fromPlace, 0, GREATEST_PLACE) || !isWithin(toPlace, 0, GREATEST_PLACE)
                    || !isWithin(count, 1, Math.min(rings[from].length, rings[to].length))) {
                return OUT_OF_RANGE;
            }
            return moveCount >= MOST_MOVES ? NOT_NOW : FINE;
        }

        int putMove(int from, int fromPlace, int to, int toPlace, int count) {
            Move move = moves[moveCount];
            move.from = from;
            move.fromPlace = fromPlace;
            move.to = to;
            move.toPlace = toPlace;
            move.count = count;
            move.sources = rings[from].cellsFrom(fromPlace, count);
            move.targets = rings[to].cellsFrom(toPlace, count);
            move.phase = WAITING;
            move.written = 0;
            move.started = NONE;
            move.copied = NONE;
            move.signed = NONE;
            moveCount++;
            return moveCount - 1;
        }

        int signRefusal(int ring) {
            if (!hasRing(ring)) {
                return NO_SUCH;
            }
            return rings[ring].strikes || countCopiedTo(ring) == 0 ? NOT_NOW : FINE;
        }

        int signFirst(int ring) {
            for (int number = 0; number < moveCount; number++) {
                if (isCopiedTo(moves[number], ring)) {
                    markSigned(moves[number]);
                    return number;
                }
            }
            return NONE;
        }

        int strikeRefusal(int ring, boolean strikes) {
            if (!hasRing(ring)) {
                return NO_SUCH;
            }
            return rings[ring].strikes == strikes ? NOT_NOW : FINE;
        }

        int putStrike(int ring, boolean strikes) {
            rings[ring].strikes = strikes;
            return countCopiedTo(ring);
        }

        int passRefusal(int ticks) {
            if (!isWithin(ticks, 1, MOST_TICKS)) {
                return OUT_OF_RANGE;
            }
            return tick + ticks > LAST_TICK ? NOT_NOW : FINE;
        }

        int letPass(int ticks) {
            int before = copiedInAll;
            for (int passed = 0; passed < ticks; passed++) {
                passTick();
            }
            return copiedInAll - before;
        }

        void passTick() {
            for (int ring = 0; ring < ringCount; ring++) {
                if (!rings[ring].strikes && rings[ring].patience > 0) {
                    signPatiently(ring, rings[ring].patience);
                }
            }
            startMoves();
            for (int number = 0; number < moveCount; number++) {
                copyOn(moves[number], speed);
            }
            tick++;
        }

        void signPatiently(int ring, int patience) {
            for (int number = 0; number < moveCount; number++) {
                Move move = moves[number];
                if (isCopiedTo(move, ring) && tick - move.copied >= patience) {
                    markSigned(move);
                }
            }
        }

        void startMoves() {
            int copying = countIn(COPYING);
            for (int number = 0; number < moveCount; number++) {
                Move move = moves[number];
                if (copying < lanes && move.phase == WAITING && waitedFor(number) == 0) {
                    start(move);
                    copying++;
                }
            }
        }

        void start(Move move) {
            Ring source = rings[move.from];
            for (int k = 0; k < move.count; k++) {
                move.taken[k] = cells[source.cellAt(move.fromPlace + k)];
            }
            move.phase = COPYING;
            move.started = tick;
        }

        void copyOn(Move move, int most) {
            if (move.phase != COPYING) {
                return;
            }
            Ring target = rings[move.to];
            int end = Math.min(move.count, move.written + most);
            for (int k = move.written; k < end; k++) {
                cells[target.cellAt(move.toPlace + k)] = move.taken[k];
            }
            move.written = end;
            if (end == move.count) {
                move.phase = COPIED;
                move.copied = tick;
                copiedInAll++;
            }
        }

        void markSigned(Move move) {
            move.phase = SIGNED;
            move.signed = tick;
            signedInAll++;
        }

        int dropSigned() {
            int gone = 0;
            while (gone < moveCount && moves[gone].phase == SIGNED) {
                gone++;
            }
            for (int number = gone; number < moveCount; number++) {
                moves[number - gone].copyFrom(moves[number]);
            }
            moveCount -= gone;
            sweptInAll += gone;
            return gone;
        }

        /** Does all moves at once in their order, which leaves what the ticks would leave. */
        void finishMoves() {
            for (int number = 0; number < moveCount; number++) {
                Move move = moves[number];
                if (move.phase == WAITING) {
                    start(move);
                }
                copyOn(move, move.count);
            }
        }

        int ringPart(int number, int what) {
            Ring ring = rings[number];
            switch (what) {
                case 0:
                    return ring.first;
                case 1:
                    return ring.length;
                case 2:
                    return ring.patience;
                case 3:
                    return ring.strikes ? 1 : 0;
                case 4:
                    return countUnsigned(number, false);
                case 5:
                    return countUnsigned(number, true);
                case 6:
                    return countCopiedTo(number);
                default:
                    return sumOf(ring.first, ring.length);
            }
        }

        int wholePart(int what) {
            switch (what) {
                case 0:
                    return ringCount;
                case 1:
                    return moveCount;
                case 2:
                case 3:
                case 4:
                case 5:
                    return countIn(what - 2);
                case 6:
                    return speed;
                case 7:
                    return lanes;
                case 8:
                    return tick;
                case 9:
                    return Long.bitCount(heldCells());
                case 10:
                    return copiedInAll;
                case 11:
                    return signedInAll;
                case 12:
                    return sweptInAll;
                default:
                    return sumOf(0, CELLS);
            }
        }

        int sumOf(int first, int length) {
            int sum = 0;
            for (int cell = first; cell < first + length && cell < CELLS; cell++) {
                sum += cells[cell];
            }
            return sum;
        }

        long heldCells() {
            long held = 0;
            for (int number = 0; number < moveCount; number++) {
                if (moves[number].holds()) {
                    held |= moves[number].sources;
                }
            }
            return held;
        }

        int countIn(int phase) {
            int count = 0;
            for (int number = 0; number < moveCount; number++) {
                if (moves[number].phase == phase) {
                    count++;
                }
            }
            return count;
        }

        int countUnsigned(int ring, boolean target) {
            int count = 0;
            for (int number = 0; number < moveCount; number++) {
                Move move = moves[number];
                if (move.phase != SIGNED && (target ? move.to : move.from) == ring) {
                    count++;
                }
            }
            return count;
        }

        int countCopiedTo(int ring) {
            int count = 0;
            for (int number = 0; number < moveCount; number++) {
                if (isCopiedTo(moves[number], ring)) {
                    count++;
                }
            }
            return count;
        }

        static boolean isCopiedTo(Move move, int ring) {
            return move.phase == COPIED && move.to == ring;
        }

        int waitedFor(int number) {
            Move move = moves[number];
            if (move.phase != WAITING) {
                return 0;
            }
            int waited = 0;
            for (int earlier = 0; earlier < number; earlier++) {
                if (move.waitsBehind(moves[earlier])) {
                    waited |= 1 << earlier;
                }
            }
            return waited;
        }

        int depthOf(int number) {
            // A move waits for earlier ones alone, so one way up through the numbers finds all depths.
            for (int later = 0; later <= number; later++) {
                int waited = waitedFor(later);
                int deepest = 0;
                for (int earlier = 0; earlier < later; earlier++) {
                    if ((waited & 1 << earlier) != 0) {
                        deepest = Math.max(deepest, 1 + depths[earlier]);
                    }
                }
                depths[later] = deepest;
            }
            return depths[number];
        }
    }

    /** The undo stack: a circle of states, in which the newest takes the place of the oldest. */
    private static final class History {
        final State[] saved = new State[MOST_SAVED];
        int next;
        int count;

        History() {
            for (int slot = 0; slot < MOST_SAVED; slot++) {
                saved[slot] = new State();
            }
        }

        void save(State state) {
            saved[next].copyFrom(state);
            next = (next + 1) % MOST_SAVED;
            count = Math.min(count + 1, MOST_SAVED);
        }

        int restore(State state) {
            next = (next + MOST_SAVED - 1) % MOST_SAVED;
            state.copyFrom(saved[next]);
            count--;
            return count;
        }
    }

    private enum Word {
        RING("ring", 3),
        MOVE("move", 5),
        SIGN("sign", 1),
        STRIKE("strike", 1),
        WORK("work", 1),
        PUT("put", 2),
        SET("set", 2),
        TICKS("ticks", 1);

        final String letters;
        final int numbers;

        Word(String letters, int numbers) {
            this.letters = letters;
            this.numbers = numbers;
        }
    }

    /** The command text, and the reading of it from left to right, command by command. */
    private static final class CommandText {
        final char[] bytes = new char[MOST_BYTES];
        final int[] numbers = new int[MOST_NUMBERS];
        Word word = Word.RING;
        int length;
        int at;
        int fault = NO_FAULT;

        int append(int value) {
            bytes[length] = (char) value;
            length++;
            return length;
        }

        int findFault() {
            rewind();
            boolean more = true;
            for (int read = 0; more && read < MOST_BYTES; read++) {
                more = readCommand();
            }
            return fault;
        }

        void rewind() {
            at = 0;
            fault = NO_FAULT;
        }

        /** Reads the next command; false at the end of the text and at a fault. */
        boolean readCommand() {
            skipSpaces();
            return at < length && readWord() && readNumbers() && readSemicolon();
        }

        boolean readWord() {
            int start = at;
            while (at < length && isWithin(bytes[at], 'a', 'z')) {
                at++;
            }
            Word found = wordBetween(start, at);
            if (found == null) {
                return failAt(start);
            }
            word = found;
            return true;
        }

        Word wordBetween(int start, int end) {
            for (Word candidate : WORDS) {
                if (standsBetween(candidate.letters, start, end)) {
                    return candidate;
                }
            }
            return null;
        }

        boolean standsBetween(String letters, int start, int end) {
            if (letters.length() != end - start) {
                return false;
            }
            for (int k = 0; k < letters.length(); k++) {
                if (letters.charAt(k) != bytes[start + k]) {
                    return false;
                }
            }
            return true;
        }

        boolean readNumbers() {
            for (int index = 0; index < word.numbers && index < MOST_NUMBERS; index++) {
                if (!readNumber(index)) {
                    return false;
                }
            }
            return true;
        }

        boolean readNumber(int index) {
            int gap = at;
            skipSpaces();
            if (at == gap) {
                return failAt(at);
            }
            int start = at;
            int value = 0;
            while (at < length && at < start + MOST_DIGITS && isWithin(bytes[at], '0', '9')) {
                value = 10 * value + bytes[at] - '0';
                at++;
            }
            if (at == start) {
                return failAt(at);
            }
            numbers[index] = value;
            return true;
        }

        boolean readSemicolon() {
            skipSpaces();
            if (at >= length || bytes[at] != ';') {
                return failAt(at);
            }
            at++;
            return true;
        }

        void skipSpaces() {
            while (at < length && bytes[at] == ' ') {
                at++;
            }
        }

        boolean failAt(int index) {
            fault = index;
            return false;
        }
    }
}
