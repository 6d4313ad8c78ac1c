import java.util.ArrayDeque;
import java.util.ArrayList;
import java.util.Collections;
import java.util.Deque;
import java.util.List;
import java.util.regex.Matcher;
import java.util.regex.Pattern;

/**
 * The document once more, written as differently as can be: lists of cells instead of bit sets, values looked for
 * backwards through the moves, command texts by a regular expression. RandomRunTests holds the class against it.
 */
final class Model {
    private static final String NUMBER = " +[0-9]{1,3}";
    private static final Pattern TEXT = Pattern.compile("(?: *(?:ring(?:" + NUMBER + "){3}|move(?:" + NUMBER
            + "){5}|(?:sign|strike|work|ticks)" + NUMBER + "|(?:put|set)(?:" + NUMBER + "){2}) *;)* *");
    private static final List<String> WORDS =
            List.of("ring", "move", "sign", "strike", "work", "put", "set", "ticks");

    private static final class Ring {
        int first;
        int length;
        int patience;
        boolean strikes;
    }

    private static final class Move {
        int[] told;
        List<Integer> reads = new ArrayList<>();
        List<Integer> writes = new ArrayList<>();
        String phase = "waiting";
        List<Integer> values = new ArrayList<>();
        int done;
        int started = -1000;
        int copied = -1000;
        int signed = -1000;

        boolean is(String... phases) {
            return List.of(phases).contains(phase);
        }
    }

    private int[] memory = new int[48];
    private List<Ring> rings = new ArrayList<>();
    private List<Move> moves = new ArrayList<>();
    private final int[] settings = {2, 2};
    private int tick;
    private int copiedInAll;
    private int signedInAll;
    private int sweptInAll;
    private String text = "";
    private final Deque<Model> undoStack = new ArrayDeque<>();

    private Model frozen() {
        Model m = new Model();
        m.become(this);
        return m;
    }

    private void become(Model other) {
        memory = other.memory.clone();
        rings = new ArrayList<>();
        for (Ring r : other.rings) {
            Ring ring = new Ring();
            ring.first = r.first;
            ring.length = r.length;
            ring.patience = r.patience;
            ring.strikes = r.strikes;
            rings.add(ring);
        }
        moves = new ArrayList<>();
        for (Move m : other.moves) {
            Move move = new Move();
            move.told = m.told;
            move.reads = m.reads;
            move.writes = m.writes;
            move.phase = m.phase;
            move.values = m.values;
            move.done = m.done;
            move.started = m.started;
            move.copied = m.copied;
            move.signed = m.signed;
            moves.add(move);
        }
        settings[0] = other.settings[0];
        settings[1] = other.settings[1];
        tick = other.tick;
        copiedInAll = other.copiedInAll;
        signedInAll = other.signedInAll;
        sweptInAll = other.sweptInAll;
    }

    private void save(boolean really) {
        if (really) {
            undoStack.push(frozen());
            if (undoStack.size() > 4) {
                undoStack.removeLast();
            }
        }
    }

    private static void exists(boolean condition) {
        if (!condition) {
            throw new IndexOutOfBoundsException();
        }
    }

    private static void inRange(boolean condition) {
        if (!condition) {
            throw new IllegalArgumentException();
        }
    }

    private static void inState(boolean condition) {
        if (!condition) {
            throw new IllegalStateException();
        }
    }

    private static boolean from(int least, int value, int greatest) {
        return least <= value && value <= greatest;
    }

    private Ring ringAt(int ring) {
        exists(from(0, ring, rings.size() - 1));
        return rings.get(ring);
    }

    private Move moveAt(int move) {
        exists(from(0, move, moves.size() - 1));
        return moves.get(move);
    }

    int addRing(int first, int length, int patience, boolean saves) {
        exists(from(0, first, 47));
        inRange(from(2, length, 16) && from(0, patience, 50) && (long) first + length <= 48);
        inState(rings.size() < 6);
        boolean[] taken = new boolean[48];
        for (Ring r : rings) {
            for (int k = 0; k < r.length; k++) {
                taken[r.first + k] = true;
            }
        }
        for (int k = 0; k < length; k++) {
            inState(!taken[first + k]);
        }
        save(saves);
        Ring ring = new Ring();
        ring.first = first;
        ring.length = length;
        ring.patience = patience;
        rings.add(ring);
        return rings.size() - 1;
    }

    int setPatience(int ring, int patience) {
        Ring r = ringAt(ring);
        inRange(from(0, patience, 50));
        int before = r.patience;
        save(true);
        r.patience = patience;
        return before;
    }

    int set(int what, int value, boolean saves) {
        inRange(what == 0 && from(1, value, 8) || what == 1 && from(1, value, 4));
        int before = settings[what];
        save(saves);
        settings[what] = value;
        return before;
    }

    int write(int cell, int value, boolean saves) {
        exists(from(0, cell, 47));
        inRange(from(-999, value, 999));
        inState(reason(cell) == 0);
        save(saves);
        int before = memory[cell];
        memory[cell] = value;
        return before;
    }

    int move(int[] told, boolean saves) {
        Ring source = ringAt(told[0]);
        Ring target = ringAt(told[2]);
        inRange(from(0, told[1], 99) && from(0, told[3], 99));
        inRange(told[4] >= 1 && told[4] <= source.length && told[4] <= target.length);
        inState(moves.size() < 24);
        save(saves);
        Move move = new Move();
        move.told = told.clone();
        for (int k = 0; k < told[4]; k++) {
            move.reads.add(source.first + (told[1] + k) % source.length);
            move.writes.add(target.first + (told[3] + k) % target.length);
        }
        moves.add(move);
        return moves.size() - 1;
    }

    private int countCopiedTo(int ring) {
        int count = 0;
        for (Move m : moves) {
            count += m.is("copied") && m.told[2] == ring ? 1 : 0;
        }
        return count;
    }

    private void signNow(Move move) {
        move.phase = "signed";
        move.signed = tick;
        signedInAll++;
    }

    int sign(int ring, boolean saves) {
        Ring r = ringAt(ring);
        inState(!r.strikes && countCopiedTo(ring) > 0);
        save(saves);
        int number = 0;
        while (!moves.get(number).is("copied") || moves.get(number).told[2] != ring) {
            number++;
        }
        signNow(moves.get(number));
        return number;
    }

    int strike(int ring, boolean strikes, boolean saves) {
        Ring r = ringAt(ring);
        inState(r.strikes != strikes);
        save(saves);
        r.strikes = strikes;
        return countCopiedTo(ring);
    }

    int pass(int ticks, boolean saves) {
        inRange(from(1, ticks, 50));
        inState(tick + ticks <= 9999);
        save(saves);
        int before = copiedInAll;
        for (int k = 0; k < ticks; k++) {
            oneTick();
        }
        return copiedInAll - before;
    }

    private void oneTick() {
        for (Move m : moves) {
            Ring to = rings.get(m.told[2]);
            if (m.is("copied") && !to.strikes && to.patience != 0 && m.copied + to.patience <= tick) {
                signNow(m);
            }
        }
        for (int i = 0; i < moves.size(); i++) {
            Move m = moves.get(i);
            int copying = 0;
            for (Move other : moves) {
                copying += other.is("copying") ? 1 : 0;
            }
            if (m.is("waiting") && copying < settings[1] && waitedFor(i).isEmpty()) {
                m.phase = "copying";
                m.started = tick;
                m.values = new ArrayList<>();
                for (int cell : m.reads) {
                    m.values.add(memory[cell]);
                }
            }
        }
        for (Move m : moves) {
            for (int k = 0; k < settings[0] && m.is("copying"); k++) {
                memory[m.writes.get(m.done)] = m.values.get(m.done);
                m.done++;
                if (m.done == m.writes.size()) {
                    m.phase = "copied";
                    m.copied = tick;
                    copiedInAll++;
                }
            }
        }
        tick++;
    }

    int sweep() {
        save(true);
        int gone = 0;
        while (!moves.isEmpty() && moves.get(0).is("signed")) {
            moves.remove(0);
            gone++;
        }
        sweptInAll += gone;
        return gone;
    }

    int cell(int cell) {
        exists(from(0, cell, 47));
        return memory[cell];
    }

    int ring(int ring, int what) {
        Ring r = ringAt(ring);
        inRange(from(0, what, 7));
        int leaving = 0;
        int coming = 0;
        for (Move m : moves) {
            leaving += !m.is("signed") && m.told[0] == ring ? 1 : 0;
            coming += !m.is("signed") && m.told[2] == ring ? 1 : 0;
        }
        int sum = 0;
        for (int k = 0; k < r.length; k++) {
            sum += memory[r.first + k];
        }
        return new int[] {r.first, r.length, r.patience, r.strikes ? 1 : 0, leaving, coming, countCopiedTo(ring),
            sum}[what];
    }

    int moveOf(int move, int what) {
        Move m = moveAt(move);
        inRange(from(0, what, 9));
        if (what < 5) {
            return m.told[what];
        }
        int phase = List.of("waiting", "copying", "copied", "signed").indexOf(m.phase);
        return new int[] {phase, m.done, m.started, m.copied, m.signed}[what - 5];
    }

    int hostage(int move, int index) {
        Move m = moveAt(move);
        inRange(index >= 0);
        if (!m.is("copying")) {
            return -1000;
        }
        List<Integer> left = m.values.subList(m.done, m.values.size());
        return index < left.size() ? left.get(index) : -1000;
    }

    long cellSet(int move, boolean target) {
        Move m = moveAt(move);
        return bits(target ? m.writes : m.reads);
    }

    private static long bits(List<Integer> numbers) {
        long set = 0;
        for (int number : numbers) {
            set |= 1L << number;
        }
        return set;
    }

    long held() {
        List<Integer> all = new ArrayList<>();
        for (Move m : moves) {
            if (m.is("copying", "copied")) {
                all.addAll(m.reads);
            }
        }
        return bits(all);
    }

    int whole(int what) {
        inRange(from(0, what, 14));
        int[] phases = new int[4];
        for (int i = 0; i < moves.size(); i++) {
            phases[moveOf(i, 5)]++;
        }
        int sum = 0;
        for (int value : memory) {
            sum += value;
        }
        return new int[] {rings.size(), moves.size(), phases[0], phases[1], phases[2], phases[3], settings[0],
            settings[1], tick, Long.toBinaryString(held()).replace("0", "").length(), copiedInAll, signedInAll,
            sweptInAll, sum, text.length()}[what];
    }

    int reason(int cell) {
        exists(from(0, cell, 47));
        int reason = 4;
        for (Move m : moves) {
            if (m.is("copying", "copied") && m.reads.contains(cell)) {
                reason = Math.min(reason, 1);
            }
            if (m.is("waiting") && (m.reads.contains(cell) || m.writes.contains(cell))) {
                reason = Math.min(reason, 2);
            }
            if (m.is("copying") && m.writes.contains(cell)) {
                reason = Math.min(reason, 3);
            }
        }
        return reason % 4;
    }

    private List<Integer> waitedFor(int move) {
        List<Integer> all = new ArrayList<>();
        Move m = moves.get(move);
        for (int j = 0; j < move && m.is("waiting"); j++) {
            Move e = moves.get(j);
            boolean hostage = !e.is("signed") && !Collections.disjoint(e.reads, m.writes);
            boolean unwritten = e.is("waiting", "copying")
                    && !(Collections.disjoint(e.writes, m.reads) && Collections.disjoint(e.writes, m.writes));
            if (hostage || unwritten) {
                all.add(j);
            }
        }
        return all;
    }

    int waitsFor(int move) {
        moveAt(move);
        return (int) bits(waitedFor(move));
    }

    int depth(int move) {
        moveAt(move);
        return depths().get(move);
    }

    private List<Integer> depths() {
        List<Integer> all = new ArrayList<>();
        for (int i = 0; i < moves.size(); i++) {
            int depth = 0;
            for (int j : waitedFor(i)) {
                depth = Math.max(depth, 1 + all.get(j));
            }
            all.add(depth);
        }
        return all;
    }

    int finalValue(int cell) {
        exists(from(0, cell, 47));
        return valueBefore(moves.size(), cell);
    }

    /** The value of a cell when the moves before the one with this number are done. */
    private int valueBefore(int number, int cell) {
        for (int i = number - 1; i >= 0; i--) {
            Move m = moves.get(i);
            int k = m.writes.indexOf(cell);
            if (k >= 0 && m.is("copying")) {
                return m.values.get(k);
            }
            if (k >= 0 && m.is("waiting")) {
                return valueBefore(i, m.reads.get(k));
            }
        }
        return memory[cell];
    }

    int copiedIn(int move) {
        if (moveAt(move).is("copied", "signed")) {
            return 0;
        }
        Model ahead = frozen();
        int ticks = 0;
        while (ticks < 300 && ahead.moves.get(move).is("waiting", "copying")) {
            ahead.oneTick();
            ticks++;
        }
        return ahead.moves.get(move).is("waiting", "copying") ? -1000 : ticks;
    }

    int stuck() {
        if (whole(2) == 0 || whole(3) != 0) {
            return 0;
        }
        Model ahead = frozen();
        for (int k = 0; k < 60; k++) {
            ahead.oneTick();
            for (Move m : ahead.moves) {
                if (m.started >= tick) {
                    return 0;
                }
            }
        }
        return 1;
    }

    int type(int value) {
        inRange(from(0, value, 127));
        inState(text.length() < 150);
        text = text + (char) value;
        return text.length();
    }

    int clearCommands() {
        int before = text.length();
        text = "";
        return before;
    }

    /** The fault of the text, -1 if there is none. */
    private int fault() {
        int good = 0;
        while (good < text.length() && canGoOn(text.substring(0, good + 1))) {
            good++;
        }
        if (good == text.length() && TEXT.matcher(text).matches()) {
            return -1;
        }
        int start = good;
        while (start > 0 && isLetter(start - 1)) {
            start--;
        }
        int end = good;
        while (end < text.length() && isLetter(end)) {
            end++;
        }
        return start == end || WORDS.contains(text.substring(start, end)) ? good : start;
    }

    private boolean isLetter(int index) {
        return text.charAt(index) >= 'a' && text.charAt(index) <= 'z';
    }

    private static boolean canGoOn(String front) {
        Matcher matcher = TEXT.matcher(front);
        return matcher.matches() || matcher.hitEnd();
    }

    int runCommands() {
        int fault = fault();
        if (fault >= 0) {
            return -10 - fault;
        }
        save(true);
        int done = 0;
        for (String command : text.split(";")) {
            if (command.isBlank()) {
                continue;
            }
            try {
                carryOut(command.trim().split(" +"));
            } catch (IndexOutOfBoundsException | IllegalArgumentException | IllegalStateException e) {
                return done;
            }
            done++;
        }
        return done;
    }

    private void carryOut(String[] parts) {
        int[] n = new int[parts.length - 1];
        for (int k = 0; k < n.length; k++) {
            n[k] = Integer.parseInt(parts[k + 1]);
        }
        switch (parts[0]) {
            case "ring" -> addRing(n[0], n[1], n[2], false);
            case "move" -> move(n, false);
            case "sign" -> sign(n[0], false);
            case "strike" -> strike(n[0], true, false);
            case "work" -> strike(n[0], false, false);
            case "put" -> write(n[0], n[1], false);
            case "set" -> set(n[0], n[1], false);
            case "ticks" -> pass(n[0], false);
            default -> throw new AssertionError(parts[0]);
        }
    }

    int undo() {
        inState(!undoStack.isEmpty());
        become(undoStack.pop());
        return undoStack.size();
    }

    long digest() {
        List<Long> values = new ArrayList<>();
        values.add((long) undoStack.size());
        for (int what = 0; what <= 14; what++) {
            values.add((long) whole(what));
        }
        for (int cell = 0; cell < 48; cell++) {
            values.add((long) cell(cell));
            values.add((long) finalValue(cell));
        }
        for (int ring = 0; ring < rings.size(); ring++) {
            for (int what = 0; what <= 7; what++) {
                values.add((long) ring(ring, what));
            }
        }
        List<Integer> depths = depths();
        for (int i = 0; i < moves.size(); i++) {
            for (int what = 0; what <= 9; what++) {
                values.add((long) moveOf(i, what));
            }
            Move m = moves.get(i);
            for (int k = m.done; k < m.values.size(); k++) {
                values.add((long) m.values.get(k));
            }
            values.add((long) waitsFor(i));
            values.add((long) depths.get(i));
        }
        values.add(held());
        long h = 43476;
        for (long value : values) {
            h = 31 * h + value;
        }
        return h;
    }
}
