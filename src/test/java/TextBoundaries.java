/** The boundary cases of the promises 24 to 28: the command text, undo and the checksum. */
final class TextBoundaries extends Boundary {
    private TextBoundaries() {
    }

    static void all() {
        type();
        clearCommands();
        noFault();
        numbers();
        spaces();
        words();
        wordEnds();
        faultPlaces();
        whatAFaultLeaves();
        runsUntilOneThrows();
        commandBounds();
        commandCalls();
        runsAndStates();
        undo();
        undoBringsBack();
        undoInTurn();
        digest();
    }

    private static void type() {
        test("24: value: 0 is in range, -1 is not", x -> {
            refused(x, RANGE, () -> x.type(-1));
            refused(x, RANGE, () -> x.type(LEAST));
            equal(1, x.type(0));
            equal(1, whole(x, 14));
        });
        test("24: value: 127 is in range, 128 is not", x -> {
            refused(x, RANGE, () -> x.type(128));
            refused(x, RANGE, () -> x.type(255));
            refused(x, RANGE, () -> x.type(GREATEST));
            equal(1, x.type(127));
            equal(1, whole(x, 14));
        });
        test("24: the text has room for 150 bytes, not for one more", x -> {
            Check.type(x, "put 0 1;".repeat(18));
            for (int length = 145; length <= 150; length++) {
                equal(length, x.type(' '));
            }
            refused(x, NOT_NOW, () -> x.type(' '));
            refused(x, NOT_NOW, () -> x.type(0));
            refused(x, NOT_NOW, () -> x.type(127));
            equal(150, whole(x, 14));
            undoable(x, 18, () -> x.runCommands());
        });
        test("24: out of range goes before a full text", x -> {
            Check.type(x, " ".repeat(150));
            refused(x, RANGE, () -> x.type(128));
            refused(x, RANGE, () -> x.type(-1));
            refused(x, NOT_NOW, () -> x.type(' '));
        });
        test("24: it returns the length of the text, from 1 on", x -> {
            equal(1, x.type('a'));
            equal(2, x.type('b'));
            equal(3, x.type('b'));
        });
        test("24: a byte in the last place stands in the text", x -> {
            Check.type(x, " ".repeat(142) + "put 0 1;");
            undoable(x, 1, () -> x.runCommands());
            equal(1, x.cell(0));
        });
        test("24: it saves no state, and undo does not take it back", x -> {
            x.write(0, 1);
            x.type('a');
            equal(1, x.states());
            equal(0, x.undo());
            equal(1, whole(x, 14));
        });
    }

    private static void clearCommands() {
        test("25: an empty text had the length 0", x -> {
            equal(0, x.clearCommands());
            equal(0, whole(x, 14));
        });
        test("25: a full text had the length 150, and has room then", x -> {
            Check.type(x, "x".repeat(150));
            equal(150, x.clearCommands());
            equal(0, whole(x, 14));
            equal(0, x.clearCommands());
            equal(1, x.type('a'));
        });
        test("25: nothing of the old text is left", x -> {
            Check.type(x, "put 0 1;put 1 1;");
            x.clearCommands();
            Check.type(x, "put 2 1");
            faulty(x, 7);
            x.type(';');
            undoable(x, 1, () -> x.runCommands());
            rows(row(0, 0, 1), cells(x, 0, 3));
        });
        test("25: it saves no state, and undo does not take it back", x -> {
            x.write(0, 1);
            Check.type(x, "abc");
            equal(3, x.clearCommands());
            equal(1, x.states());
            equal(0, x.undo());
            equal(0, whole(x, 14));
        });
    }

    /** The text has this fault: the answer tells it, and nothing changes. */
    private static void faulty(Engine x, int fault) {
        Check.changesNothing("fault " + fault, x, -10 - fault, () -> x.runCommands());
    }

    private static void fault(String text, int fault) {
        Engine x = new Engine();
        x.write(9, 9);
        Check.type(x, text);
        Check.changesNothing("'" + text + "'", x, -10 - fault, () -> x.runCommands());
    }

    /** The text has no fault; so many of its commands are carried out on a new object. */
    private static void fine(String text, int done) {
        Engine x = new Engine();
        Check.type(x, text);
        Check.undoable("'" + text + "'", x, done, () -> x.runCommands());
        Check.equal("'" + text + "' stays", text.length(), whole(x, 14));
    }

    private static void noFault() {
        test("26: an empty text has no fault", x -> fine("", 0));
        test("26: a text of spaces alone has no fault", x -> {
            fine(" ", 0);
            fine("     ", 0);
        });
        test("26: a full text of spaces alone has no fault", x -> fine(" ".repeat(150), 0));
        test("26: a text of one byte that is no space has a fault", x -> {
            fault(";", 0);
            fault("a", 0);
            fault("1", 0);
            fault("\t", 0);
            fault("\0", 0);
            fault("\177", 0);
        });
        test("26: a text of 150 bytes with the most commands", x -> {
            x.addRing(0, 2, 0);
            x.set(1, 1);
            for (int move = 0; move < 22; move++) {
                x.move(0, 0, 0, 1, 1);
            }
            x.pass(22);
            Check.type(x, "sign 0;".repeat(21) + "   ");
            undoable(x, 21, () -> x.runCommands());
            rows(row(1, 21), row(whole(x, 4), whole(x, 5)));
        });
        test("26: a text that is cut off by the end of the room", x -> {
            fault(" ".repeat(143) + "put 0 1", 150);
            fault(" ".repeat(147) + "put", 150);
            fault(" ".repeat(148) + "pu", 148);
        });
    }

    private static void numbers() {
        test("26: a number has one digit at least", x -> {
            fine("put 0 7;", 1);
            fault("put 0 ;", 6);
            fault("put 0;", 5);
            fault("put;", 3);
        });
        test("26: a number has three digits at most", x -> {
            fine("put 10 17;", 1);
            fine("put 010 117;", 1);
            fault("put 0 1000;", 9);
            fault("put 0000 1;", 7);
            fault("put 0 9999", 9);
            fault("put 0 99999;", 9);
        });
        test("26: zeros in front are allowed, up to three digits", x -> {
            Check.type(x, "put 007 009;put 08 08;put 000 001;");
            undoable(x, 3, () -> x.runCommands());
            rows(row(1, 9, 8), row(x.cell(0), x.cell(7), x.cell(8)));
            fault("put 0007 1;", 7);
            fault("put 7 0001;", 9);
        });
        test("26: the digits are 0 to 9, not the bytes beside them", x -> {
            Check.type(x, "put 10 987; put 23 456;");
            undoable(x, 2, () -> x.runCommands());
            rows(row(987, 456), row(x.cell(10), x.cell(23)));
            fault("put /;", 4);
            fault("put :;", 4);
            fault("put 1/ 1;", 5);
            fault("put 1: 1;", 5);
            fault("put 1 1/;", 7);
            fault("put 1 1:;", 7);
        });
        test("26: no sign and no letter in a number", x -> {
            fault("put 0 -1;", 6);
            fault("put 0 +1;", 6);
            fault("put 0 1a;", 7);
            fault("put a 1;", 4);
        });
        test("26: a number out of range is no fault", x -> {
            fine("ring 999 999 999;", 0);
            fine("put 48 999;", 0);
            fine("set 9 999;", 0);
            fine("ticks 999;", 0);
        });
        test("26: the numbers 0 and 999 are read as they are", x -> {
            Check.type(x, "put 0 999;put 47 0;");
            undoable(x, 2, () -> x.runCommands());
            rows(row(999, 0), row(x.cell(0), x.cell(47)));
        });
    }

    private static void spaces() {
        test("26: at least one space in front of each number", x -> {
            fine("put  0   1;", 1);
            fault("put0 1;", 3);
            fault("ring1 2 3;", 4);
            fault("sign1;", 4);
        });
        test("26: a space is the byte 32 alone", x -> {
            for (char other : new char[] {0, 9, 10, 13, 31, 33, 127}) {
                fault(other + "put 0 1;", 0);
                fault("put" + other + "0 1;", 3);
                fault("put 0" + other + "1;", 5);
                fault("put 0 1" + other + ";", 7);
                fault("put 0 1;" + other, 8);
            }
        });
        test("26: spaces may stand in front of a command", x -> {
            fine(" put 0 1;", 1);
            fine("    put 0 1;   put 0 2;", 2);
        });
        test("26: spaces may stand in front of a semicolon", x -> {
            fine("put 0 1 ;", 1);
            fine("put 0 1    ;put 0 2 ;", 2);
        });
        test("26: spaces may stand at the end", x -> {
            fine("put 0 1; ", 1);
            fine("put 0 1;     ", 1);
        });
        test("26: no spaces inside a word or a number", x -> {
            fault("pu t 0 1;", 0);
            fault("p ut 0 1;", 0);
            fault("put 0 1 1;", 8);
        });
    }

    private static final String[] COMMANDS = {"ring 0 2 0", "move 0 0 0 0 1", "sign 0", "strike 0", "work 0", "put 0 1",
        "set 0 1", "ticks 1"};

    private static String word(String command) {
        return command.substring(0, command.indexOf(' '));
    }

    private static void words() {
        test("26: each of the eight words", x -> {
            Check.type(x, "ring 0 2 0;move 0 0 0 1 1;ticks 1;sign 0;strike 0;work 0;put 5 6;set 0 7;");
            undoable(x, 8, () -> x.runCommands());
            rows(row(1, 1, 1, 6, 7), row(whole(x, 0), whole(x, 5), whole(x, 8), x.cell(5), whole(x, 6)));
        });
        test("26: a word without its last or its first letter is none", x -> {
            for (String command : COMMANDS) {
                String word = word(command);
                String rest = command.substring(word.length());
                fault(word.substring(0, word.length() - 1) + rest + ";", 0);
                fault(word.substring(1) + rest + ";", 0);
            }
        });
        test("26: a word with one letter more is none", x -> {
            for (String command : COMMANDS) {
                String word = word(command);
                String rest = command.substring(word.length());
                fault(word + "s" + rest + ";", 0);
                fault("a" + command + ";", 0);
            }
        });
        test("26: a word with another letter in any place is none", x -> {
            for (String command : COMMANDS) {
                for (int k = 0; k < word(command).length(); k++) {
                    fault(command.substring(0, k) + "z" + command.substring(k + 1) + ";", 0);
                }
            }
        });
        test("26: a word of capital letters is none", x -> {
            fault("PUT 0 1;", 0);
            fault("Put 0 1;", 0);
            fault("puT 0 1;", 0);
            fault("put 0 1;SET 0 1;", 8);
        });
        test("26: each word has its numbers, not one less", x -> {
            for (String command : COMMANDS) {
                int last = command.lastIndexOf(' ');
                fault(command.substring(0, last) + ";", last);
                fault(command.substring(0, last) + " ;", last + 1);
            }
        });
        test("26: each word has its numbers, not one more", x -> {
            for (String command : COMMANDS) {
                fault(command + " 1;", command.length() + 1);
                fault(command + " 1 1;", command.length() + 1);
            }
        });
        test("26: each command has its semicolon, and only one", x -> {
            for (String command : COMMANDS) {
                fault(command, command.length());
                fault(command + " ", command.length() + 1);
                fault(command + ";;", command.length() + 1);
                fault(command + "; ;", command.length() + 2);
                fault(command + ":", command.length());
                fault(command + "<", command.length());
                fault(command + " put 0 1;", command.length() + 1);
            }
        });
    }

    private static void wordEnds() {
        test("26: a word that is none is found at the end of the text", x -> {
            fault("p", 0);
            fault("pu", 0);
            fault("puts", 0);
            fault("  pu", 2);
            fault("put 0 1;pu", 8);
            fault("put 0 1; x", 9);
        });
        test("26: a word that is none is found at a space", x -> {
            fault("pu ", 0);
            fault(" puts 0 1;", 1);
            fault("put 0 1;puts ", 8);
        });
        test("26: a word that is none is found at a digit, a semicolon or any byte that is no letter", x -> {
            fault("pu0 1;", 0);
            fault("pu;", 0);
            fault("puT", 0);
            fault("pu{", 0);
            fault("pu`", 0);
            fault("pu\0", 0);
            fault("pu\177", 0);
        });
        test("26: letters are a to z, not the bytes beside them", x -> {
            fault("`", 0);
            fault("{", 0);
            fault("put`0 1;", 3);
            fault("put{0 1;", 3);
            fault("putz 0 1;", 0);
            fault("puta 0 1;", 0);
        });
        test("26: a whole word with a byte that cannot stand behind it is at fault with that byte", x -> {
            fault("put;", 3);
            fault("put1 1;", 3);
            fault("put-", 3);
            fault("putA", 3);
            fault("put\0", 3);
        });
        test("26: a whole word that ends too soon is at fault with the length", x -> {
            for (String command : COMMANDS) {
                String word = word(command);
                fault(word, word.length());
                fault(word + " ", word.length() + 1);
                fault(" " + word + "  ", word.length() + 3);
            }
        });
        test("26: where no word can stand, a letter cannot either", x -> {
            fault("put put 1;", 4);
            fault("put 1 put;", 6);
            fault("put 1 1 put;", 8);
        });
    }

    private static void faultPlaces() {
        test("26: the first byte can be the fault, which answers -10", x -> {
            fault("5 put 0 1;", 0);
            fault("; put 0 1;", 0);
        });
        test("26: the last byte of a full text can be the fault, which answers -159", x -> {
            fault(" ".repeat(149) + ";", 149);
            fault("put 0 1;".repeat(18) + "     ;", 149);
        });
        test("26: the end of a full text can be the fault, which answers -160", x ->
                fault("put 0 1;".repeat(18) + "put 0 ", 150));
        test("26: the first of two faults counts", x -> {
            fault("put 0 x;y", 6);
            fault("pit 0 x;", 0);
            fault("put 0 1;; put 0;", 8);
        });
        test("26: a number that is missing is a fault before what follows the semicolon", x -> {
            fault("put;x", 3);
            fault("put ;x", 4);
            fault("put 0;x", 5);
            fault("put 0 ;x", 6);
            fault("put 0 ;1;", 6);
            fault("put 0;put 0 ;", 5);
            fault("put 0 ;put 0 1;", 6);
            fault("move;move;x", 4);
        });
        test("26: a word that is none is a fault before what follows it", x -> {
            fault("puts x;", 0);
            fault("puts;", 0);
        });
        test("26: a fault behind commands without a fault", x -> {
            fault("put 0 1;put 0 1;put 0 1;5", 24);
            fault("put 0 1; put 0 1; put 0", 23);
        });
        test("26: ends too soon: the length, wherever it ends", x -> {
            String text = "move 1 22 333 4 5;";
            for (int length = 4; length < text.length(); length++) {
                fault(text.substring(0, length), length);
            }
            for (int length = 1; length < 4; length++) {
                fault(text.substring(0, length), 0);
            }
            fine(text, 0);
        });
    }

    private static void whatAFaultLeaves() {
        test("26: with a fault nothing is done, not even the commands before it", x -> {
            x.write(0, 5);
            Check.type(x, "put 0 1;put 1 1;x");
            faulty(x, 16);
            rows(row(5, 0), cells(x, 0, 2));
        });
        test("26: with a fault no state is saved, on an empty stack or a full one", x -> {
            Check.type(x, "put 0 1");
            faulty(x, 7);
            equal(0, x.states());
            fullStack(x);
            faulty(x, 7);
            equal(4, x.states());
            equal(3, x.undo());
            equal(3, x.cell(40));
        });
        test("26: with a fault the text stays and can be gone on with", x -> {
            Check.type(x, "put 0 1");
            faulty(x, 7);
            equal(8, x.type(';'));
            undoable(x, 1, () -> x.runCommands());
            equal(1, x.cell(0));
        });
        test("26: a fault does not outlive its text", x -> {
            Check.type(x, "puts 0 1;");
            faulty(x, 0);
            x.clearCommands();
            undoable(x, 0, () -> x.runCommands());
            Check.type(x, "put 0 1;");
            undoable(x, 1, () -> x.runCommands());
        });
    }

    private static void runsUntilOneThrows() {
        test("26: until one would throw: the first, one inside, the last", x -> {
            fine("put 48 1;put 0 1;put 1 1;", 0);
            fine("put 0 1;put 48 1;put 1 1;", 1);
            fine("put 0 1;put 1 1;put 48 1;", 2);
            fine("put 0 1;put 1 1;put 47 1;", 3);
        });
        test("26: those before stay done, those behind are not done", x -> {
            Check.type(x, "put 0 5;put 48 5;put 1 5;");
            undoable(x, 1, () -> x.runCommands());
            rows(row(5, 0), cells(x, 0, 2));
        });
        test("26: the one that would throw does nothing", x -> {
            twoRings(x);
            Check.type(x, "set 0 8;move 0 0 1 0 5;set 0 1;");
            undoable(x, 1, () -> x.runCommands());
            rows(row(0, 8), row(whole(x, 1), whole(x, 6)));
        });
        test("26: a command throws by what those before it did", x -> {
            fine("ring 0 2 0;ring 1 2 0;", 1);
            fine("ring 0 2 0;move 0 0 0 0 1;put 0 1;", 2);
            fine("ring 0 2 0;strike 0;strike 0;", 2);
            fine("ring 0 2 0;work 0;", 1);
            fine("ring 0 2 0;move 0 0 0 1 1;ticks 1;sign 0;sign 0;", 4);
        });
        test("26: a command that throws alone does not behind others that make it good", x -> {
            fine("sign 0;", 0);
            fine("ring 0 2 0;move 0 0 0 1 1;ticks 1;sign 0;", 4);
            fine("strike 0;work 0;", 0);
            fine("ring 0 2 0;strike 0;work 0;", 3);
        });
        test("26: a command text that would throw at once saves a state all the same", x -> {
            Check.type(x, "sign 0;");
            undoable(x, 0, () -> x.runCommands());
            equal(1, x.states());
        });
        test("26: a run at the last tick", x -> {
            passTo(x, 9950);
            Check.type(x, "ticks 50;");
            undoable(x, 0, () -> x.runCommands());
            x.clearCommands();
            Check.type(x, "ticks 49;ticks 1;");
            undoable(x, 1, () -> x.runCommands());
            equal(9999, whole(x, 8));
        });
    }

    /** Commands at the bounds of their numbers, and just beyond; the number of those that are carried out. */
    private static void commandBounds() {
        test("26: ring: its bounds", x -> {
            fine("ring 0 2 0;ring 32 16 50;", 2);
            fine("ring 48 2 0;", 0);
            fine("ring 0 1 0;", 0);
            fine("ring 0 17 0;", 0);
            fine("ring 0 2 51;", 0);
            fine("ring 33 16 0;", 0);
            fine("ring 0 2 0;ring 2 2 0;ring 4 2 0;ring 6 2 0;ring 8 2 0;ring 10 2 0;ring 12 2 0;", 6);
        });
        test("26: move: its bounds", x -> {
            fine("ring 0 2 0;move 0 99 0 99 2;", 2);
            fine("ring 0 2 0;move 1 0 0 0 1;", 1);
            fine("ring 0 2 0;move 0 0 1 0 1;", 1);
            fine("ring 0 2 0;move 0 100 0 0 1;", 1);
            fine("ring 0 2 0;move 0 0 0 100 1;", 1);
            fine("ring 0 2 0;move 0 0 0 0 0;", 1);
            fine("ring 0 2 0;move 0 0 0 0 3;", 1);
        });
        test("26: move: a 24th, not a 25th", x -> {
            twoRings(x);
            for (int move = 0; move < 23; move++) {
                x.move(0, 0, 1, 0, 1);
            }
            Check.type(x, "move 0 0 1 0 1;move 0 0 1 0 1;");
            undoable(x, 1, () -> x.runCommands());
            equal(24, whole(x, 1));
        });
        test("26: sign, strike and work: their bounds", x -> {
            fine("ring 0 2 0;sign 1;", 1);
            fine("ring 0 2 0;strike 1;", 1);
            fine("ring 0 2 0;work 1;", 1);
            fine("ring 0 2 0;sign 0;", 1);
            fine("ring 0 2 0;move 0 0 0 1 1;ticks 1;strike 0;sign 0;", 4);
        });
        test("26: put, set and ticks: their bounds", x -> {
            fine("put 0 0;put 47 999;put 48 0;", 2);
            fine("set 0 1;set 0 8;set 1 1;set 1 4;", 4);
            fine("set 0 0;", 0);
            fine("set 0 9;", 0);
            fine("set 1 0;", 0);
            fine("set 1 5;", 0);
            fine("set 2 1;", 0);
            fine("ticks 1;ticks 50;", 2);
            fine("ticks 0;", 0);
            fine("ticks 51;", 0);
        });
    }

    private static void commandCalls() {
        test("26: ring f l p: each number in its place", x -> {
            Check.type(x, "ring 5 7 9;");
            x.runCommands();
            rows(row(5, 7, 9, 0, 0, 0, 0, 0), ringRow(x, 0));
        });
        test("26: move a p b q n: each number in its place", x -> {
            twoRings(x);
            Check.type(x, "move 0 11 1 22 3;");
            x.runCommands();
            rows(row(0, 11, 1, 22, 3, WAITING, 0, NONE, NONE, NONE), moveRow(x, 0));
        });
        test("26: strike b begins a strike, work b ends it", x -> {
            twoRings(x);
            Check.type(x, "strike 1;");
            x.runCommands();
            rows(row(0, 1), row(x.ring(0, 3), x.ring(1, 3)));
            x.clearCommands();
            Check.type(x, "work 1;");
            undoable(x, 1, () -> x.runCommands());
            rows(row(0, 0), row(x.ring(0, 3), x.ring(1, 3)));
        });
        test("26: sign b: the lowest copied move to that ring", x -> {
            twoRings(x);
            x.move(1, 3, 0, 3, 1);
            x.move(0, 0, 1, 0, 1);
            x.pass(1);
            Check.type(x, "sign 1;");
            undoable(x, 1, () -> x.runCommands());
            rows(row(COPIED, SIGNED), states(x));
        });
        test("26: sign b: that ring has a move to sign, whatever other rings and numbers in front have", x -> {
            twoRings(x);
            x.move(0, 0, 1, 0, 1);
            x.move(0, 1, 1, 1, 1);
            x.pass(1);
            Check.type(x, "put 20 0;sign 1;put 21 1;sign 0;put 22 1;");
            undoable(x, 3, () -> x.runCommands());
            rows(row(SIGNED, COPIED, 1, 0), row(x.moveOf(0, 5), x.moveOf(1, 5), x.cell(21), x.cell(22)));
        });
        test("26: strike b, work b and ticks n: a number of a command in front does not count", x -> {
            twoRings(x);
            Check.type(x, "put 20 0;strike 1;put 0 1;put 21 0;work 1;put 21 1;ticks 3;");
            undoable(x, 7, () -> x.runCommands());
            rows(row(0, 0, 3), row(x.ring(0, 3), x.ring(1, 3), whole(x, 8)));
        });
        test("26: put c v, set w v and ticks n: each number in its place", x -> {
            Check.type(x, "put 6 7;set 1 3;ticks 4;");
            undoable(x, 3, () -> x.runCommands());
            rows(row(7, 0, 2, 3, 4), row(x.cell(6), x.cell(7), whole(x, 6), whole(x, 7), whole(x, 8)));
        });
    }

    private static void runsAndStates() {
        test("26: a run saves one state, the one from before it, however many commands", x -> {
            x.write(0, 9);
            Check.type(x, "put 0 1;put 0 2;put 0 3;put 0 4;put 0 5;put 0 6;");
            undoable(x, 6, () -> x.runCommands());
            equal(2, x.states());
            equal(1, x.undo());
            equal(9, x.cell(0));
        });
        test("26: a run drops the oldest of four states, only one", x -> {
            fullStack(x);
            Check.type(x, "put 0 1;put 0 2;put 0 3;");
            undoable(x, 3, () -> x.runCommands());
            equal(4, x.states());
            for (int left = 3; left >= 0; left--) {
                equal(left, x.undo());
            }
            equal(1, x.cell(40));
        });
        test("26: the text stays as it is and can be run again", x -> {
            Check.type(x, "ticks 1;");
            undoable(x, 1, () -> x.runCommands());
            undoable(x, 1, () -> x.runCommands());
            rows(row(8, 2), row(whole(x, 14), whole(x, 8)));
        });
        test("26: a run of no command saves a state, also on a full stack", x -> {
            undoable(x, 0, () -> x.runCommands());
            equal(1, x.states());
            fullStack(x);
            undoable(x, 0, () -> x.runCommands());
            equal(4, x.states());
        });
    }

    private static void undo() {
        test("27: an empty stack", x -> {
            refused(x, NOT_NOW, () -> x.undo());
            x.write(0, 1);
            equal(0, x.undo());
            refused(x, NOT_NOW, () -> x.undo());
            equal(0, x.cell(0));
        });
        test("27: it returns the number of states that are left: 3, 2, 1, 0", x -> {
            fullStack(x);
            for (int left = 3; left >= 0; left--) {
                equal(left, x.undo());
                equal(left, x.cell(40));
                equal(left, x.states());
            }
            refused(x, NOT_NOW, () -> x.undo());
        });
        test("27: the latest 4 states are kept, a fifth drops the oldest", x -> {
            x.write(0, 1);
            fullStack(x);
            equal(4, x.states());
            for (int left = 3; left >= 0; left--) {
                equal(left, x.undo());
            }
            rows(row(1, 0), row(x.cell(0), x.cell(40)));
            refused(x, NOT_NOW, () -> x.undo());
            equal(1, x.cell(0));
        });
        test("27: many more than 4 states", x -> {
            for (int value = 1; value <= 11; value++) {
                x.write(0, value);
            }
            for (int left = 3; left >= 0; left--) {
                equal(left, x.undo());
                equal(7 + left, x.cell(0));
            }
            refused(x, NOT_NOW, () -> x.undo());
        });
        test("27: a call that changes nothing is saved too", x -> {
            undoable(x, 0, () -> x.write(0, 0));
            undoable(x, 2, () -> x.set(0, 2));
            undoable(x, 0, () -> x.sweep());
            equal(3, x.states());
        });
        test("27: a call that throws saves nothing", x -> {
            x.write(0, 1);
            refused(x, RANGE, () -> x.write(0, 1000));
            refused(x, NO_SUCH, () -> x.sign(0));
            equal(1, x.states());
            equal(0, x.undo());
            equal(0, x.cell(0));
        });
        test("27: questions, bytes and undo itself save nothing", x -> {
            x.write(0, 1);
            x.cell(0);
            x.held();
            x.whole(0);
            x.reason(0);
            x.finalValue(0);
            x.stuck();
            x.type('a');
            x.clearCommands();
            x.digest();
            equal(1, x.states());
            x.write(0, 2);
            x.undo();
            equal(1, x.states());
        });
    }

    private static void undoBringsBack() {
        test("27: a ring", x -> {
            x.addRing(0, 2, 5);
            equal(0, x.undo());
            equal(0, whole(x, 0));
            refused(x, NO_SUCH, () -> x.ring(0, 0));
        });
        test("27: patience and strike", x -> {
            x.addRing(0, 2, 5);
            x.setPatience(0, 50);
            x.strike(0, true);
            equal(2, x.undo());
            rows(row(50, 0), row(x.ring(0, 2), x.ring(0, 3)));
            equal(1, x.undo());
            rows(row(5, 0), row(x.ring(0, 2), x.ring(0, 3)));
        });
        test("27: settings and values", x -> {
            x.set(0, 8);
            x.set(1, 4);
            x.write(47, 999);
            x.undo();
            rows(row(8, 4, 0), row(whole(x, 6), whole(x, 7), x.cell(47)));
            x.undo();
            x.undo();
            rows(row(2, 2, 0), row(whole(x, 6), whole(x, 7), x.cell(47)));
        });
        test("27: a move, a signature, a sweep and the totals", x -> {
            twoRings(x);
            x.move(0, 0, 1, 0, 1);
            x.pass(1);
            x.sign(1);
            x.sweep();
            rows(row(0, 1, 1, 1), row(whole(x, 1), whole(x, 10), whole(x, 11), whole(x, 12)));
            equal(3, x.undo());
            rows(row(1, 1, 1, 0), row(whole(x, 1), whole(x, 10), whole(x, 11), whole(x, 12)));
            equal(2, x.undo());
            rows(row(1, 1, 0, 0), row(whole(x, 1), whole(x, 10), whole(x, 11), whole(x, 12)));
            equal(1, x.undo());
            rows(row(1, 0, 0, 0), row(whole(x, 1), whole(x, 10), whole(x, 11), whole(x, 12)));
            rows(row(0, 5, 0), row(whole(x, 8), x.cell(4), x.held()));
            equal(0, x.undo());
            equal(0, whole(x, 1));
        });
        test("27: the hostages of a copying move", x -> {
            twoRings(x);
            x.move(0, 0, 1, 0, 4);
            x.pass(1);
            undoable(x, 1, () -> x.pass(1));
            x.undo();
            rows(row(3, 4, NONE), row(x.hostage(0, 0), x.hostage(0, 1), x.hostage(0, 2)));
            undoable(x, 1, () -> x.pass(1));
            rows(row(1, 2, 3, 4), cells(x, 4, 4));
        });
        test("27: all hostages of sixteen", x -> {
            x.addRing(0, 16, 0);
            x.addRing(16, 16, 0);
            x.write(14, -999);
            x.write(15, 999);
            x.set(0, 8);
            x.move(0, 0, 1, 0, 16);
            x.pass(1);
            x.pass(1);
            x.sign(1);
            x.sweep();
            x.undo();
            x.undo();
            x.undo();
            rows(row(0, -999, 999, NONE), row(x.hostage(0, 0), x.hostage(0, 6), x.hostage(0, 7), x.hostage(0, 8)));
            undoable(x, 1, () -> x.pass(1));
            rows(row(0, -999, 999), cells(x, 29, 3));
        });
        test("27: the hostages of a move whose place another move had in between", x -> {
            twoRings(x);
            x.move(0, 0, 1, 0, 4);
            x.pass(1);
            x.pass(1);
            x.sign(1);
            x.sweep();
            x.undo();
            x.undo();
            x.undo();
            rows(row(3, 4, NONE), row(x.hostage(0, 0), x.hostage(0, 1), x.hostage(0, 2)));
        });
        test("27: not the command text, typed or cleared", x -> {
            x.write(0, 1);
            Check.type(x, "put 1 7;");
            equal(0, x.undo());
            equal(8, whole(x, 14));
            undoable(x, 1, () -> x.runCommands());
            rows(row(0, 7), cells(x, 0, 2));
            x.clearCommands();
            x.undo();
            equal(0, whole(x, 14));
        });
    }

    private static void undoInTurn() {
        test("27: undone states are not on the stack any more", x -> {
            x.write(0, 1);
            x.write(0, 2);
            equal(1, x.undo());
            x.write(0, 3);
            equal(2, x.states());
            equal(1, x.undo());
            equal(1, x.cell(0));
            equal(0, x.undo());
            equal(0, x.cell(0));
        });
        test("27: a full stack, two undone, three saved: again the latest 4", x -> {
            fullStack(x);
            x.undo();
            x.undo();
            x.write(41, 1);
            x.write(41, 2);
            x.write(41, 3);
            equal(4, x.states());
            rows(row(3, 2, 1, 0), row(x.undo(), x.undo(), x.undo(), x.undo()));
            rows(row(1, 0), row(x.cell(40), x.cell(41)));
            refused(x, NOT_NOW, () -> x.undo());
        });
    }

    private static void digest() {
        test("28: it starts with 43476: a new object, without rings and moves", x -> {
            long h = 43476;
            for (int k = 0; k < 113; k++) {
                h = 31 * h + (k == 7 || k == 8 ? 2 : 0);
            }
            answers(x, h, () -> x.digest());
        });
        test("28: the number of states on the undo stack: 0 to 4, and 4 with one more", x -> {
            for (int states = 0; states <= 5; states++) {
                answers(x, Check.digestOf(x, Math.min(states, 4)), () -> x.digest());
                x.write(0, 0);
            }
        });
        test("28: the first and the last cell, their least and greatest values", x -> {
            x.write(0, -999);
            x.write(47, 999);
            answers(x, Check.digestOf(x, 2), () -> x.digest());
        });
        test("28: the command text counts by its length, up to 150", x -> {
            Check.type(x, "a".repeat(150));
            answers(x, Check.digestOf(x, 0), () -> x.digest());
            long before = x.see(o -> o.digest());
            x.clearCommands();
            Check.type(x, "b".repeat(150));
            equal(before, x.see(o -> o.digest()));
        });
        test("28: six rings, one of them with a strike", x -> {
            for (int ring = 0; ring < 6; ring++) {
                x.addRing(8 * ring, 3 + ring, ring);
            }
            x.strike(5, true);
            answers(x, Check.digestOf(x, 4), () -> x.digest());
        });
        test("28: 24 moves in all states", x -> {
            twoRings(x);
            x.set(0, 1);
            for (int move = 0; move < 24; move++) {
                x.move(move % 2, move, move % 2, move + 1, 1 + move % 2);
            }
            answers(x, Check.digestOf(x, 4), () -> x.digest());
            x.pass(1);
            rows(row(22, 1, 1, 0), row(whole(x, 2), whole(x, 3), whole(x, 4), whole(x, 5)));
            x.sign(0);
            answers(x, Check.digestOf(x, 4), () -> x.digest());
        });
        test("28: each value that a move has taken and not yet written, down to the last", x -> {
            x.addRing(0, 16, 0);
            x.addRing(32, 16, 0);
            x.write(1, -999);
            x.write(15, 999);
            x.set(0, 1);
            x.move(0, 0, 1, 0, 16);
            for (int tick = 0; tick <= 16; tick++) {
                answers(x, Check.digestOf(x, 4), () -> x.digest());
                x.pass(1);
            }
        });
        test("28: held() with the cell 47", x -> {
            x.addRing(46, 2, 0);
            x.move(0, 1, 0, 1, 1);
            x.pass(1);
            equal(1L << 47, x.held());
            answers(x, Check.digestOf(x, 3), () -> x.digest());
        });
        test("28: overflow wraps: the same as whole numbers modulo 2 to the 64", x -> {
            twoRings(x);
            java.math.BigInteger h = java.math.BigInteger.valueOf(43476);
            long[] values = new long[1 + 15 + 96 + 16 + 1];
            values[0] = 4;
            values[1] = 2;
            values[7] = 2;
            values[8] = 2;
            values[14] = 36;
            for (int cell = 0; cell < 8; cell++) {
                values[16 + 2 * cell] = cell + 1;
                values[17 + 2 * cell] = cell + 1;
            }
            values[113] = 4;
            values[119] = 10;
            values[120] = 4;
            values[121] = 4;
            values[127] = 26;
            for (long value : values) {
                h = h.multiply(java.math.BigInteger.valueOf(31)).add(java.math.BigInteger.valueOf(value));
            }
            Check.isTrue("it is far too great", h.bitLength() > 500);
            answers(x, h.longValue(), () -> x.digest());
        });
    }
}
