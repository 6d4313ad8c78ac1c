import java.util.Random;

/** Long runs of calls, always the same ones, on the class and on the model: every answer must be the same. */
final class RandomRunTests {
    private static final int CALLS = 512;

    /** One call, on the class or on the model. */
    private interface Call {
        long on();
    }

    private final Random random;
    private final HostageRings x = new HostageRings();
    private final Model model = new Model();
    private final int longestRing;
    private final int greatestPatience;
    private final int longestPass;
    private final int wrongInput;
    private final boolean manyMoves;
    private String last = "";
    private int calls = 0;

    private RandomRunTests(long seed) {
        random = new Random(seed);
        longestRing = new int[] {3, 6, 16}[random.nextInt(3)];
        greatestPatience = new int[] {0, 2, 10, 50}[random.nextInt(4)];
        longestPass = new int[] {1, 3, 50}[random.nextInt(3)];
        wrongInput = new int[] {5, 20, 100}[random.nextInt(3)];
        manyMoves = random.nextInt(3) == 0;
    }

    static void all() {
        for (int part = 0; part < 10; part++) {
            int first = 100 * part;
            Check.test("random runs from seed " + first, () -> {
                for (int seed = first; seed < first + 100; seed++) {
                    if (!new RandomRunTests(seed).run()) {
                        Check.complain("seed " + seed);
                        return;
                    }
                }
            });
        }
        Check.test("random command texts", RandomRunTests::texts);
    }

    private boolean run() {
        for (int turn = 0; calls < CALLS; turn++) {
            boolean same = turn % 3 == 2 ? ask() : change();
            if (!same || !same("digest after " + last, x::digest, model::digest)) {
                return false;
            }
        }
        return true;
    }

    private static String outcome(Call call) {
        try {
            return String.valueOf(call.on());
        } catch (RuntimeException e) {
            return e.getClass().getSimpleName();
        }
    }

    /** Calls both, but no object more often than it promises to answer. */
    private boolean same(String what, Call got, Call due) {
        if (calls >= CALLS) {
            return true;
        }
        calls++;
        last = what;
        String answer = outcome(got);
        String right = outcome(due);
        if (!answer.equals(right)) {
            Check.complain(what + " answered " + answer + ", due is " + right);
            return false;
        }
        return true;
    }

    /** Mostly from 0 to below the limit; now and then just outside or far off. */
    private int number(int limit) {
        if (random.nextInt(wrongInput) == 0) {
            int[] wrong = {-1, limit, limit + 1, -2, Integer.MIN_VALUE, Integer.MAX_VALUE};
            return wrong[random.nextInt(wrong.length)];
        }
        return random.nextInt(Math.max(1, limit));
    }

    private int from(int least, int greatest) {
        return least + number(greatest - least + 1);
    }

    private int ring() {
        return number(model.whole(0));
    }

    private int moveNumber() {
        return number(model.whole(1));
    }

    private int value() {
        return from(-999, 999);
    }

    private boolean change() {
        int kind = random.nextInt(28);
        if (model.whole(0) < 2 || kind == 0) {
            int first = number(48);
            int length = from(2, longestRing);
            int patience = from(0, greatestPatience);
            return same("addRing(" + first + ", " + length + ", " + patience + ")",
                    () -> x.addRing(first, length, patience), () -> model.addRing(first, length, patience, true));
        }
        if (manyMoves && model.whole(1) < 24 && kind > 12) {
            return move();
        }
        switch (kind) {
            case 1:
                return setPatience();
            case 2:
                return set();
            case 3: case 4: case 5:
                return write();
            case 6: case 7: case 8: case 9: case 10: case 11: case 12:
                return move();
            case 13: case 14: case 15: {
                int ring = ring();
                return same("sign(" + ring + ")", () -> x.sign(ring), () -> model.sign(ring, true));
            }
            case 16: {
                int ring = ring();
                boolean strikes = random.nextInt(3) == 0;
                return same("strike(" + ring + ", " + strikes + ")", () -> x.strike(ring, strikes),
                        () -> model.strike(ring, strikes, true));
            }
            case 17: case 18: case 19: case 20: case 21: {
                int ticks = from(1, longestPass);
                return same("pass(" + ticks + ")", () -> x.pass(ticks), () -> model.pass(ticks, true));
            }
            case 22: case 23:
                return same("sweep()", x::sweep, model::sweep);
            case 24: case 25:
                return same("undo()", x::undo, model::undo);
            default:
                return command();
        }
    }

    private boolean setPatience() {
        int ring = ring();
        int patience = from(0, greatestPatience);
        return same("setPatience(" + ring + ", " + patience + ")", () -> x.setPatience(ring, patience),
                () -> model.setPatience(ring, patience));
    }

    private boolean set() {
        int what = number(2);
        int value = from(1, what == 0 ? 8 : 4);
        return same("set(" + what + ", " + value + ")", () -> x.set(what, value),
                () -> model.set(what, value, true));
    }

    private boolean write() {
        int cell = number(48);
        int value = value();
        return same("write(" + cell + ", " + value + ")", () -> x.write(cell, value),
                () -> model.write(cell, value, true));
    }

    private boolean move() {
        int from = ring();
        int to = ring();
        int fromPlace = number(random.nextBoolean() ? 6 : 100);
        int toPlace = number(random.nextBoolean() ? 6 : 100);
        int rings = model.whole(0);
        int longest = 3;
        if (from >= 0 && from < rings && to >= 0 && to < rings) {
            longest = Math.min(model.ring(from, 1), model.ring(to, 1));
        }
        int count = from(1, random.nextBoolean() ? 1 : longest);
        int[] told = {from, fromPlace, to, toPlace, count};
        return same("move(" + from + ", " + fromPlace + ", " + to + ", " + toPlace + ", " + count + ")",
                () -> x.move(from, fromPlace, to, toPlace, count), () -> model.move(told, true));
    }

    private boolean ask() {
        int cell = number(48);
        int move = moveNumber();
        int ring = ring();
        switch (random.nextInt(13)) {
            case 0:
                return same("cell(" + cell + ")", () -> x.cell(cell), () -> model.cell(cell));
            case 1: {
                int what = number(8);
                return same("ring(" + ring + ", " + what + ")", () -> x.ring(ring, what),
                        () -> model.ring(ring, what));
            }
            case 2: {
                int what = number(10);
                return same("moveOf(" + move + ", " + what + ")", () -> x.moveOf(move, what),
                        () -> model.moveOf(move, what));
            }
            case 3: {
                int index = number(8);
                return same("hostage(" + move + ", " + index + ")", () -> x.hostage(move, index),
                        () -> model.hostage(move, index));
            }
            case 4: {
                boolean target = random.nextBoolean();
                return same("cellSet(" + move + ", " + target + ")", () -> x.cellSet(move, target),
                        () -> model.cellSet(move, target));
            }
            case 5:
                return same("held()", x::held, model::held);
            case 6: {
                int what = number(15);
                return same("whole(" + what + ")", () -> x.whole(what), () -> model.whole(what));
            }
            case 7:
                return same("reason(" + cell + ")", () -> x.reason(cell), () -> model.reason(cell));
            case 8:
                return same("waitsFor(" + move + ")", () -> x.waitsFor(move), () -> model.waitsFor(move));
            case 9:
                return same("depth(" + move + ")", () -> x.depth(move), () -> model.depth(move));
            case 10:
                return same("finalValue(" + cell + ")", () -> x.finalValue(cell), () -> model.finalValue(cell));
            case 11:
                return same("copiedIn(" + move + ")", () -> x.copiedIn(move), () -> model.copiedIn(move));
            default:
                return same("stuck()", x::stuck, model::stuck);
        }
    }

    /** A text of a few commands, typed at once and run twice. */
    private boolean command() {
        boolean same = random.nextInt(8) == 0 || same("clearCommands()", x::clearCommands, model::clearCommands);
        String text = commands(1 + random.nextInt(5));
        for (int k = 0; k < text.length() && same; k++) {
            int value = text.charAt(k);
            same = same("type(" + value + ")", () -> x.type(value), () -> model.type(value));
        }
        return same && same("runCommands()", x::runCommands, model::runCommands)
                && (random.nextInt(8) > 0 || same("runCommands()", x::runCommands, model::runCommands));
    }

    private String commands(int many) {
        StringBuilder text = new StringBuilder();
        for (int k = 0; k < many; k++) {
            String[] forms = {"ring 48 16 9", "move 6 20 6 20 3", "move 2 20 2 20 1", "sign 6", "sign 2", "strike 6",
                "work 6", "put 48 1000", "set 2 5", "ticks 5", "ticks 51"};
            String[] parts = forms[random.nextInt(forms.length)].split(" ");
            text.append(spaces(0)).append(parts[0]);
            for (int p = 1; p < parts.length; p++) {
                String number = String.valueOf(random.nextInt(Integer.parseInt(parts[p])));
                text.append(spaces(1)).append("00", 0, number.length() < 2 && random.nextInt(9) == 0 ? 2 : 0);
                text.append(number);
            }
            text.append(spaces(0)).append(';');
        }
        text.append(spaces(0));
        return text.toString();
    }

    private String spaces(int least) {
        return " ".repeat(least + (random.nextInt(6) == 0 ? 1 + random.nextInt(2) : 0));
    }

    /** Right texts with a byte taken away, put in, changed, or cut off. */
    private String spoilt(String text) {
        if (text.isEmpty()) {
            return text;
        }
        StringBuilder spoilt = new StringBuilder(text);
        String bytes = " ;09azring:/`{A\n-";
        char other = bytes.charAt(random.nextInt(bytes.length()));
        int at = random.nextInt(text.length());
        switch (random.nextInt(5)) {
            case 0:
                spoilt.deleteCharAt(at);
                break;
            case 1:
                spoilt.insert(at, other);
                break;
            case 2:
                spoilt.setCharAt(at, other);
                break;
            case 3:
                spoilt.setLength(at);
                break;
            default:
                break;
        }
        return spoilt.toString();
    }

    private static void texts() {
        RandomRunTests runs = new RandomRunTests(4711);
        int faulty = 0;
        for (int k = 0; k < 20000; k++) {
            String text = runs.spoilt(runs.spoilt(runs.commands(1 + runs.random.nextInt(4))));
            if (text.length() > 150) {
                continue;
            }
            HostageRings own = new HostageRings();
            Model other = new Model();
            for (int i = 0; i < text.length(); i++) {
                own.type(text.charAt(i));
                other.type(text.charAt(i));
            }
            int answer = own.runCommands();
            faulty += answer < 0 ? 1 : 0;
            if (answer != other.runCommands() || own.digest() != other.digest()) {
                Check.complain("the text '" + text + "' answered " + answer);
            }
        }
        Check.isTrue("texts with and without a fault", faulty > 5000 && faulty < 18000);
    }
}
