import java.util.function.Consumer;
import java.util.function.Supplier;

/** Boundary sentences about programs: the grammar of the terms, and promises 45 to 48. */
final class EdgePrograms {
    private static final Check CHECK = Edge.CHECK;
    private static final String ELEVEN_WAITS = "wait;".repeat(11);
    // Each 0 stands for any digit; a command may also end before the second digit of a number.
    private static final String[] SHAPES = {"switch", "trunk 0-0=00", "user 0/0", "call 0>0", "hang 0", "cut 00",
        "mend 00", "wait 00"};
    private static final char[] STRANGE = {0x00b2, 0x0173, 0x0660, 0x2010, 0xff10, 0xff1b, 0xffff};

    private EdgePrograms() {
    }

    static void tell() {
        Edge.at(Edge.TERMS, "`program = command { \";\" command", EdgePrograms::lists);
        Edge.at(Edge.TERMS, "`command = \"switch\" | \"trunk \" digit \"-\" digit \"=\" number | \"user \" digit "
                + "\"/\" digit | \"call \" digit \">\" digit | \"hang \" digit | \"cut \" number | "
                + "\"mend \" number | \"wait\" [ \" \" number ]`", EdgePrograms::wrongCharacters);
        Edge.at(Edge.TERMS, "`number = digit [ digit ]`", EdgePrograms::numbers);
        Edge.at(Edge.TERMS, "The commands correspond to addSwitch(), addTrunk(one, other, length), addSubscriber(home, "
                + "tariff), call(caller, callee), hangUp(subscriber), cut(trunk), mend(trunk) and pass(minutes)",
                EdgePrograms::sameAsMethods);
        Edge.at(Edge.TERMS, "where \"wait\" without a number means one minute.", EdgePrograms::bareWait);
        Edge.at(Edge.TERMS, "is the index of the first character at which no program can continue",
                EdgePrograms::errorWithin);
        Edge.at(Edge.TERMS, "or the length of the text if the text is a proper prefix of a program.",
                EdgePrograms::properPrefixes);
        tellRuns();
    }

    private static void tellRuns() {
        Edge.at(45, "- `character`: any character", EdgePrograms::anyCharacter);
        Edge.at(45, "Returns the number of characters in the buffer afterwards.", EdgePrograms::countCharacters);
        Edge.at(45, "Throws `IllegalStateException` if the buffer contains 60 characters", EdgePrograms::fullBuffer);
        Edge.at(46, "executes the commands in order, either all of them or, if one of them fails, none.",
                EdgePrograms::allOrNone);
        Edge.at(46, "The buffer is empty afterwards in every case.", EdgePrograms::emptiesBuffer);
        Edge.at(46, "Returns the number of commands.", EdgePrograms::countCommands);
        Edge.at(46, "Throws `IllegalArgumentException` if the text is not a program; its error position is recorded",
                EdgePrograms::notPrograms);
        Edge.at(46, "Throws `UnsupportedOperationException` if a command fails, that is, if the method for it throws "
                + "an exception; the number of this command, counted from 0, is recorded, and so is a blocked call",
                EdgePrograms::failures);
        Edge.at(47, "of the latest text that was not a program.", EdgePrograms::latestError);
        Edge.at(47, "Throws `NoSuchElementException` if there was no such text", EdgePrograms::noErrorYet);
        Edge.at(48, "of the latest command that failed in a program.", EdgePrograms::latestFailure);
        Edge.at(48, "Throws `NoSuchElementException` if no command failed", EdgePrograms::noFailureYet);
    }

    /** A rich board whose program buffer is empty. */
    private static Switchboard cleared() {
        Switchboard board = Boards.rich();
        board.type('h');
        board.run();
        board.undo();
        return board;
    }

    /** The error position of a text, or -1 for a program, be it one that fails. */
    private static int errorOf(String text) {
        Switchboard board = new Switchboard();
        Boards.type(board, text);
        try {
            board.run();
        } catch (IllegalArgumentException refusal) {
            return board.errorPosition();
        } catch (UnsupportedOperationException failure) {
            return -1;
        }
        return -1;
    }

    private static void checkErrorOf(String text, int want) {
        CHECK.equal("the error position of \"" + text + "\"", errorOf(text), want);
    }

    // The grammar of the terms

    private static void lists() {
        CHECK.equal("one", Boards.run(new Switchboard(), "switch"), 1);
        CHECK.equal("two", Boards.run(new Switchboard(), "switch;switch"), 2);
        CHECK.equal("as many as there can be", Boards.run(new Switchboard(), ELEVEN_WAITS + "wait"), 12);
        checkErrorOf("", 0);
        checkErrorOf(";", 0);
        checkErrorOf(";switch", 0);
        checkErrorOf("switch;", 7);
        checkErrorOf("switch;;switch", 7);
        checkErrorOf("switch; switch", 7);
        checkErrorOf("switch ;switch", 6);
        checkErrorOf("switch,switch", 6);
        checkErrorOf("switchswitch", 6);
    }

    private static void wrongCharacters() {
        for (String shape : SHAPES) {
            for (int length = 0; length <= shape.length(); length++) {
                String start = shape.substring(0, length);
                for (char next = 0; next < 300; next++) {
                    checkNext(start, next);
                }
                for (char next : STRANGE) {
                    checkNext(start, next);
                }
            }
        }
    }

    private static void checkNext(String start, char next) {
        boolean wrong = !canGoOn(start, next);
        String what = "\"" + start + "\" and character " + (int) next;
        CHECK.equal(what, errorOf(start + next) == start.length() ? 1 : 0, wrong ? 1 : 0);
        if (next % 16 == 3 || wrong && next < 128 && next > 31) {
            String behind = "wait 1;" + start;
            CHECK.equal(what + " behind a command", errorOf(behind + next) == behind.length() ? 1 : 0, wrong ? 1 : 0);
        }
    }

    /** Whether a command that starts so can have this character next, or a semicolon behind it. */
    private static boolean canGoOn(String start, char next) {
        for (String shape : SHAPES) {
            boolean common = shape.length() >= start.length();
            for (int index = 0; common && index < start.length(); index++) {
                common = shape.charAt(index) == start.charAt(index);
            }
            if (common && (shape.length() > start.length() && fits(shape.charAt(start.length()), next))) {
                return true;
            }
            if (common && next == ';' && isComplete(shape, start.length())) {
                return true;
            }
        }
        return false;
    }

    private static boolean fits(char place, char next) {
        return place == '0' ? next >= '0' && next <= '9' : next == place;
    }

    private static boolean isComplete(String shape, int length) {
        boolean number = shape.endsWith("00") && length == shape.length() - 1;
        boolean wait = shape.startsWith("wait") && length == 4;
        return length == shape.length() || number || wait;
    }

    private static void numbers() {
        Switchboard board = Boards.full();
        for (int trunk = 0; trunk < 16; trunk++) {
            CHECK.equal("cut " + trunk, Boards.run(board, "cut " + trunk), 1);
            CHECK.yes("isCut(" + trunk + ")", board.isCut(trunk));
        }
        CHECK.equal("mend 00", Boards.run(board, "mend 00"), 1);
        CHECK.no("isCut(0)", board.isCut(0));
        CHECK.equal("mend 09", Boards.run(board, "mend 09"), 1);
        CHECK.no("isCut(9)", board.isCut(9));
        CHECK.equal("mend 15", Boards.run(board, "mend 15"), 1);
        CHECK.no("isCut(15)", board.isCut(15));
        String[] words = {"cut ", "mend ", "wait ", "trunk 0-1="};
        for (String word : words) {
            checkErrorOf(word, word.length());
            checkErrorOf(word + "9", -1);
            checkErrorOf(word + "99", -1);
            checkErrorOf(word + "00", -1);
            checkErrorOf(word + "100", word.length() + 2);
            checkErrorOf(word + "1 0", word.length() + 1);
            checkErrorOf(word + "-1", word.length());
            checkErrorOf(word + "+1", word.length());
        }
        String[] digits = {"hang ", "user ", "call ", "trunk ", "user 0/", "call 0>", "trunk 0-"};
        for (String word : digits) {
            checkErrorOf(word + "00", word.length() + 1);
        }
        CHECK.equal("the greatest digit", Boards.run(Boards.full(), "hang 9"), 1);
        CHECK.equal("two digits of a length", Boards.run(Boards.withSwitches(2), "trunk 0-1=20"), 1);
        CHECK.equal("a length with 0 in front", Boards.run(Boards.withSwitches(2), "trunk 0-1=01"), 1);
    }

    private static void sameAs(String text, Consumer<Switchboard> act) {
        Trace program = new Trace(() -> {
            Switchboard board = cleared();
            CHECK.equal("run of " + text, Boards.run(board, text), 1);
            return board;
        });
        Trace method = new Trace(() -> {
            Switchboard board = cleared();
            act.accept(board);
            return board;
        });
        CHECK.equal(text, program.states, method.states);
        CHECK.equal(text + ": blocked calls", program.blocked, method.blocked);
        CHECK.equal(text + ": the line", program.line, method.line);
    }

    private static void sameAsMethods() {
        sameAs("switch", Switchboard::addSwitch);
        sameAs("trunk 3-1=20", board -> board.addTrunk(3, 1, 20));
        sameAs("trunk 1-3=1", board -> board.addTrunk(1, 3, 1));
        sameAs("user 3/0", board -> board.addSubscriber(3, 0));
        sameAs("user 0/2", board -> board.addSubscriber(0, 2));
        sameAs("call 1>5", board -> board.call(1, 5));
        sameAs("call 5>1", board -> board.call(5, 1));
        sameAs("hang 0", board -> board.hangUp(0));
        sameAs("hang 3", board -> board.hangUp(3));
        sameAs("cut 0", board -> board.cut(0));
        sameAs("cut 1", board -> board.cut(1));
        sameAs("mend 3", board -> board.mend(3));
        sameAs("mend 04", board -> board.mend(4));
        sameAs("wait 1", board -> board.pass(1));
        sameAs("wait 60", board -> board.pass(60));
    }

    private static void bareWait() {
        sameAs("wait", board -> board.pass(1));
        Switchboard board = cleared();
        Boards.run(board, "wait;wait 10;wait");
        CHECK.equal("beside one with a number", board.minutes(0), 17);
    }

    private static void errorWithin() {
        checkErrorOf("x", 0);
        checkErrorOf("xswitch", 0);
        checkErrorOf("switcx", 5);
        checkErrorOf("switch;x", 7);
        checkErrorOf("cx", 1);
        checkErrorOf("cat", 2);
        checkErrorOf("cul", 2);
        checkErrorOf("wait 7x;y", 6);
        checkErrorOf("hang 12", 6);
        checkErrorOf(ELEVEN_WAITS + "waix", 58);
        checkErrorOf(ELEVEN_WAITS + "waitx", 59);
        checkErrorOf("x".repeat(60), 0);
    }

    private static void properPrefixes() {
        String[] programs = {"switch", "trunk 0-1=2", "user 0/1", "call 0>1", "hang 0", "cut 1", "mend 1"};
        for (String text : programs) {
            for (int length = 0; length < text.length(); length++) {
                checkErrorOf(text.substring(0, length), length);
                checkErrorOf("switch;" + text.substring(0, length), 7 + length);
            }
            checkErrorOf(text, -1);
            checkErrorOf(text + ";", text.length() + 1);
        }
        checkErrorOf("w", 1);
        checkErrorOf("wai", 3);
        checkErrorOf("wait", -1);
        checkErrorOf("wait ", 5);
        checkErrorOf(ELEVEN_WAITS + "wait;", 60);
        checkErrorOf(ELEVEN_WAITS + "trunk", 60);
    }

    // Promises 45 to 48

    private static void anyCharacter() {
        char[] characters = {0, 1, '\n', ' ', ';', 127, 128, 255, 256, 0x2028, 0xd800, 0xdfff, 0xfffe, 0xffff};
        Switchboard board = new Switchboard();
        for (int index = 0; index < characters.length; index++) {
            CHECK.equal("character " + (int) characters[index], board.type(characters[index]), index + 1);
            checkErrorOf("switch" + characters[index], characters[index] == ';' ? 7 : 6);
        }
    }

    private static void countCharacters() {
        Switchboard board = new Switchboard();
        for (int count = 1; count <= 60; count++) {
            CHECK.equal("type", board.type(' '), count);
        }
        CHECK.equal("one more beside it", Boards.rich().type('h'), 6);
    }

    private static void fullBuffer() {
        String sixty = ELEVEN_WAITS + "cut 2";
        Supplier<Switchboard> full = () -> {
            Switchboard board = cleared();
            Boards.type(board, sixty);
            return board;
        };
        char[] characters = {'5', ';', ' ', 0, 0xffff};
        for (char character : characters) {
            Edge.refused("the 61st: " + (int) character, Edge.STATE, full, board -> board.type(character));
            Switchboard board = full.get();
            Boards.attempt(board, each -> each.type(character));
            CHECK.equal("the sixty run", board.run(), 12);
            CHECK.yes("the last of them too", board.isCut(2));
        }
        Switchboard board = new Switchboard();
        Boards.type(board, sixty.substring(1));
        CHECK.equal("the 60th", board.type('x'), 60);
        CHECK.refused("the 61st", Edge.STATE, () -> board.type('x'));
        CHECK.refused("the 62nd", Edge.STATE, () -> board.type('x'));
        Boards.attempt(board, Switchboard::run);
        CHECK.equal("the first after run", board.type('x'), 1);
    }

    private static void allOrNone() {
        Switchboard board = cleared();
        CHECK.equal("in order", Boards.run(board, "switch;user 4/1;trunk 4-3=20;call 1>7;wait 2;hang 7"), 6);
        CHECK.equal("the bill of it", board.bill(1), 42);
        Edge.fails("trunk 4-3=20;switch", 0, "", EdgePrograms::cleared);
        Edge.fails("switch;trunk 4-3=20;user 4/0;call 1>5;wait 60;cut 0;cut 0", 6, "", EdgePrograms::cleared);
        Edge.fails("hang 2;hang 4;mend 3;mend 4;cut 1;wait;mend 1;mend 1", 7, "", EdgePrograms::cleared);
        Edge.fails("cut 1;cut 2;wait;switch;call 0>1", 4, "0b1", EdgePrograms::cleared);
    }

    private static void emptiesBuffer() {
        Switchboard board = cleared();
        Boards.run(board, ELEVEN_WAITS + "wait");
        CHECK.equal("after a program", board.type('x'), 1);
        Boards.attempt(board, Switchboard::run);
        CHECK.equal("after no program", board.type('c'), 1);
        Boards.type(board, "ut 3;switch");
        Boards.attempt(board, Switchboard::run);
        CHECK.equal("after a failure", board.type('s'), 1);
        Boards.type(board, "witch");
        CHECK.equal("a run of the rest", board.run(), 1);
        CHECK.refused("a run of nothing", Edge.ARGUMENT, board::run);
        CHECK.equal("its error position", board.errorPosition(), 0);
    }

    private static void countCommands() {
        String text = "wait";
        for (int count = 1; count <= 12; count++) {
            CHECK.equal("of \"" + text + "\"", Boards.run(cleared(), text), count);
            text = text + ";wait";
        }
    }

    private static void notPrograms() {
        Edge.notProgram("", 0, EdgePrograms::cleared);
        Edge.notProgram("x", 0, EdgePrograms::cleared);
        Edge.notProgram("wait;", 5, EdgePrograms::cleared);
        Edge.notProgram("switch;cut 0;hang 0;mend 3;wait!", 31, EdgePrograms::cleared);
        Edge.notProgram(ELEVEN_WAITS + "wait;", 60, EdgePrograms::cleared);
        Edge.notProgram("switch;", 7, Switchboard::new);
    }

    private static void failures() {
        String[] texts = {"trunk 4-0=5", "trunk 0-4=5", "trunk 0-9=5", "trunk 2-2=5", "trunk 0-1=0", "trunk 0-1=21",
            "trunk 0-1=99", "user 4/0", "user 9/0", "user 0/3", "user 0/9", "call 7>1", "call 1>7", "call 1>1",
            "call 0>0", "hang 7", "hang 9", "hang 1", "cut 6", "cut 16", "cut 99", "cut 3", "mend 6", "mend 99", "mend 0",
            "mend 1", "wait 0", "wait 00", "wait 61", "wait 99"};
        for (String text : texts) {
            Edge.fails(text, 0, "", EdgePrograms::cleared);
            // Then there is a switch 4.
            Edge.fails("wait;switch;wait 2;" + text.replace('4', '5'), 3, "", EdgePrograms::cleared);
        }
        Edge.fails("call 6>1", 0, "6r1", EdgePrograms::cleared);
        Edge.fails("wait;call 1>6", 1, "1r6", EdgePrograms::cleared);
        Edge.fails("call 6>0", 0, "6b0", EdgePrograms::cleared);
        Edge.fails("call 1>5;call 5>6", 1, "5b6", EdgePrograms::cleared);
        Edge.fails("user 0/0;call 1>7", 1, "1r7", EdgePrograms::cleared);
        Edge.fails(ELEVEN_WAITS + "cut 3", 11, "", EdgePrograms::cleared);
        Edge.fails("switch;switch;switch;switch;switch", 4, "", EdgePrograms::cleared);
        Edge.fails("switch", 0, "", Boards::full);
        Edge.fails("trunk 0-7=20", 0, "", Boards::full);
        Edge.fails("user 7/0", 0, "", Boards::full);
        Edge.fails("call 0>1", 0, "0b1", Boards::full);
        CHECK.equal("just inside the limits", Boards.run(cleared(), "trunk 3-0=20;user 3/2;cut 5;wait 60;hang 4"), 5);
    }

    private static void latestError() {
        Switchboard board = cleared();
        CHECK.equal("of a first text", board.errorPosition(), 3);
        int[] errors = {0, 59, 7, 60, 1};
        String[] texts = {"", ELEVEN_WAITS + "cut x", "switch;", ELEVEN_WAITS + "wait;", "cx"};
        for (int index = 0; index < texts.length; index++) {
            Boards.type(board, texts[index]);
            CHECK.refused(texts[index], Edge.ARGUMENT, board::run);
            CHECK.equal("of \"" + texts[index] + "\"", board.errorPosition(), errors[index]);
        }
        Boards.run(board, "switch");
        CHECK.equal("after a program", board.errorPosition(), 1);
        Boards.attempt(board, each -> Boards.run(each, "cut 3"));
        CHECK.equal("after a failure", board.errorPosition(), 1);
    }

    private static void noErrorYet() {
        Edge.refused("an empty board", Edge.ELEMENT, Switchboard::new, Switchboard::errorPosition);
        Edge.refused("a text that was not run", Edge.ELEMENT, () -> {
            Switchboard board = new Switchboard();
            Boards.type(board, "xyz");
            return board;
        }, Switchboard::errorPosition);
        Edge.refused("programs alone", Edge.ELEMENT, () -> {
            Switchboard board = new Switchboard();
            Boards.run(board, "switch");
            Boards.attempt(board, each -> Boards.run(each, "cut 9"));
            return board;
        }, Switchboard::errorPosition);
    }

    private static void latestFailure() {
        Switchboard board = cleared();
        CHECK.equal("of a first program", board.failedCommand(), 1);
        int[] failed = {0, 11, 2, 0};
        String[] texts = {"cut 3", ELEVEN_WAITS + "cut 3", "wait;wait;cut 3;cut 4", "hang 1"};
        for (int index = 0; index < texts.length; index++) {
            Boards.type(board, texts[index]);
            CHECK.refused(texts[index], Edge.UNSUPPORTED, board::run);
            CHECK.equal("of \"" + texts[index] + "\"", board.failedCommand(), failed[index]);
        }
        Boards.attempt(board, each -> Boards.run(each, "wait;wait;x"));
        CHECK.equal("after no program", board.failedCommand(), 0);
        Boards.run(board, "wait;wait");
        CHECK.equal("after a program", board.failedCommand(), 0);
        Boards.attempt(board, each -> each.cut(3));
        CHECK.equal("after a method that throws", board.failedCommand(), 0);
    }

    private static void noFailureYet() {
        Edge.refused("an empty board", Edge.ELEMENT, Switchboard::new, Switchboard::failedCommand);
        Edge.refused("a method that throws", Edge.ELEMENT, () -> {
            Switchboard board = Boards.full();
            Boards.attempt(board, Switchboard::addSwitch);
            return board;
        }, Switchboard::failedCommand);
        Edge.refused("a program and no program", Edge.ELEMENT, () -> {
            Switchboard board = new Switchboard();
            Boards.run(board, "switch;wait");
            Boards.attempt(board, each -> Boards.run(each, "cut 9;"));
            return board;
        }, Switchboard::failedCommand);
    }
}
