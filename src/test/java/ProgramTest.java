import java.util.NoSuchElementException;

/** Promises 45 to 48: programs. */
public final class ProgramTest {
    private static final Check CHECK = new Check("ProgramTest");

    public static void main(String[] args) {
        type();
        everyCommand();
        waits();
        errors();
        fullBuffers();
        failures();
        allOrNothing();
        recordsLast();
        CHECK.end();
    }

    // Promise 45
    private static void type() {
        Switchboard board = new Switchboard();
        for (int size = 1; size <= 60; size++) {
            CHECK.equal("type", board.type((char) (size * 1000)), size);
        }
        CHECK.refused("the 61st character", IllegalStateException.class, () -> board.type('a'));
        CHECK.refused("no program", IllegalArgumentException.class, board::run);
        CHECK.equal("its error position", board.errorPosition(), 0);
        CHECK.equal("the buffer is empty then", board.type('s'), 1);
        CHECK.equal("undo takes no character", undoOfTyping(), 3);
    }

    private static int undoOfTyping() {
        Switchboard board = Boards.withSwitches(1);
        Boards.type(board, "sw");
        board.undo();
        return board.type('i');
    }

    // Promise 46
    private static void everyCommand() {
        Switchboard board = new Switchboard();
        CHECK.equal("switch", Boards.run(board, "switch"), 1);
        CHECK.equal("switches", board.switches(), 1);
        CHECK.equal("four commands", Boards.run(board, "switch;switch;trunk 2-0=20;trunk 0-1=7"), 4);
        CHECK.equal("a trunk with two digits", Boards.trunk(board, 0), "0-2=20");
        CHECK.equal("a trunk with one digit", Boards.trunk(board, 1), "0-1=7");
        CHECK.equal("a length 05", Boards.run(board, "trunk 2-1=05"), 1);
        CHECK.equal("is 5", board.trunkLength(2), 5);
        CHECK.equal("users", Boards.run(board, "user 0/1;user 1/2;user 2/0"), 3);
        CHECK.equal("the home", board.home(2), 2);
        CHECK.equal("the tariff", board.tariff(1), 2);
        CHECK.equal("call and wait", Boards.run(board, "call 1>0;wait 12"), 2);
        CHECK.equal("the call", Boards.calls(board), "1>0:12");
        CHECK.equal("hang", Boards.run(board, "hang 0"), 1);
        CHECK.equal("the bill", board.bill(1), 48);
        CHECK.equal("cut", Boards.run(board, "cut 0;cut 02"), 2);
        CHECK.yes("isCut(0)", board.isCut(0));
        CHECK.yes("isCut(2)", board.isCut(2));
        CHECK.equal("mend", Boards.run(board, "mend 2"), 1);
        CHECK.no("isCut(2) afterwards", board.isCut(2));
        Boards.run(board, "trunk 0-1=1;trunk 0-1=1;trunk 0-1=1;trunk 0-1=1;trunk 0-1=1");
        Boards.run(board, "trunk 0-1=1;trunk 0-1=1;trunk 0-1=1;trunk 0-1=1");
        CHECK.equal("two digits", Boards.run(board, "cut 10;cut 11;mend 10"), 3);
        CHECK.yes("isCut(11)", board.isCut(11));
        CHECK.no("isCut(10)", board.isCut(10));
        CHECK.no("isCut(1)", board.isCut(1));
    }

    private static void waits() {
        Switchboard board = Boards.ofTwo();
        Boards.run(board, "call 0>1;wait;wait;wait 5;wait 07;wait 60;wait");
        CHECK.equal("the waits", board.minutes(0), 75);
    }

    private static void checkError(String text, int want) {
        Switchboard board = Boards.ofTwo();
        Boards.type(board, text);
        CHECK.refused("\"" + text + "\"", IllegalArgumentException.class, board::run);
        CHECK.equal("errorPosition of \"" + text + "\"", board.errorPosition(), want);
        CHECK.equal("the buffer after \"" + text + "\"", board.type('a'), 1);
        CHECK.equal("switches after \"" + text + "\"", board.switches(), 2);
        CHECK.refused("no failure in \"" + text + "\"", NoSuchElementException.class, board::failedCommand);
    }

    // Promises 46 and 47
    private static void errors() {
        CHECK.refused("no error yet", NoSuchElementException.class, new Switchboard()::errorPosition);
        String[] starts = {"switch", "trunk 0-1=", "user 0/1", "call 0>1", "hang 0", "cut ", "mend ", "wait "};
        for (String start : starts) {
            for (int length = 0; length < start.length(); length++) {
                String text = start.substring(0, length);
                if (!text.equals("wait")) {
                    checkError(text, length);
                    checkError("wait;" + text, 5 + length);
                }
                if (!text.equals("c") && !text.equals("wait")) {
                    checkError(text + "!", length);
                }
            }
        }
        checkError("wait ", 5);
        checkError("wait  1", 5);
        checkError("wait x", 5);
        checkError("wait;", 5);
        checkError("waits", 4);
        checkError("wait5", 4);
        checkError("wait 123", 7);
        checkError("wait 12 ", 7);
        checkError(";", 0);
        checkError("switch;;switch", 7);
        checkError("switch; switch", 7);
        checkError(" switch", 0);
        checkError("switch ", 6);
        checkError("Switch", 0);
        checkError("swap", 2);
        checkError("cx", 1);
        checkError("cut 1;call 0>1;c", 16);
        checkError("cub", 2);
        checkError("cat", 2);
        checkError("cut x", 4);
        checkError("cut 123", 6);
        checkError("cut -1", 4);
        checkError("mend 1a", 6);
        checkError("hang 00", 6);
        checkError("user 00/1", 6);
        checkError("user 0-1", 6);
        checkError("user 0/12", 8);
        checkError("call 0-1", 6);
        checkError("call 0>1x", 8);
        checkError("trunk 0>1=5", 7);
        checkError("trunk 0-1-5", 9);
        checkError("trunk 0-1=123", 12);
        checkError("trunk 00-1=5", 7);
        checkError("trunk 0-1=" + (char) 0x0661, 10);
        checkError("cut " + (char) ('0' + 256), 4);
        checkError("switch" + (char) 0, 6);
        checkError("" + (char) 0xffff, 0);
        checkError("cut /", 4);
        checkError("cut :", 4);
    }

    private static void fullBuffers() {
        String waits = "wait;wait;wait;wait;wait;wait;wait;wait;wait;wait;wait;";
        Switchboard board = new Switchboard();
        CHECK.equal("twelve commands", Boards.run(board, waits + "wait"), 12);
        checkError(waits + "wait;", 60);
        checkError(waits + "waitx", 59);
        checkError(waits + "cut x", 59);
        checkError(waits + "trunk", 60);
        Switchboard full = Boards.ofTwo();
        CHECK.equal("sixty characters", Boards.run(full, waits + "cut 1"), 12);
    }

    private static void checkFailure(Switchboard board, String text, int want) {
        Boards.type(board, text);
        CHECK.refused("\"" + text + "\"", UnsupportedOperationException.class, board::run);
        CHECK.equal("failedCommand of \"" + text + "\"", board.failedCommand(), want);
        CHECK.equal("the buffer after \"" + text + "\"", board.type(';'), 1);
        CHECK.refused("the rest of \"" + text + "\"", IllegalArgumentException.class, board::run);
    }

    // Promises 46 and 48
    private static void failures() {
        CHECK.refused("no failure yet", NoSuchElementException.class, new Switchboard()::failedCommand);
        Switchboard board = Boards.ofTwo();
        board.call(0, 1);
        checkFailure(board, "wait 0", 0);
        checkFailure(board, "wait;wait 61", 1);
        checkFailure(board, "wait;wait;wait 99", 2);
        checkFailure(board, "trunk 0-2=5", 0);
        checkFailure(board, "switch;trunk 0-2=5;trunk 0-3=5", 2);
        checkFailure(board, "trunk 0-0=5", 0);
        checkFailure(board, "trunk 0-1=0", 0);
        checkFailure(board, "trunk 0-1=21", 0);
        checkFailure(board, "user 2/0", 0);
        checkFailure(board, "user 0/3", 0);
        checkFailure(board, "call 0>9", 0);
        checkFailure(board, "call 2>2", 0);
        checkFailure(board, "hang 2", 0);
        checkFailure(board, "hang 9", 0);
        checkFailure(board, "hang 1;hang 0", 1);
        checkFailure(board, "cut 3", 0);
        checkFailure(board, "cut 99", 0);
        checkFailure(board, "cut 1;cut 1", 1);
        checkFailure(board, "mend 0", 0);
        checkFailure(board, "cut 1;mend 1;mend 1", 2);
        checkFailure(board, "switch;switch;switch;switch;switch;switch;switch", 6);
        CHECK.equal("none of these is a blocked call", board.blockedCalls(), 0);
        checkFailure(board, "switch;user 2/0;call 2>6", 2);
        CHECK.equal("a blocked call is recorded", board.blockedCalls(), 1);
        CHECK.equal("its caller", board.blockedCaller(0), 2);
        CHECK.equal("its callee", board.blockedCallee(0), 6);
        CHECK.equal("its reason", board.blockedReason(0), 'r');
        checkFailure(board, "call 3>0", 0);
        CHECK.equal("another one is recorded", board.blockedCalls(), 2);
        CHECK.equal("its reason", board.blockedReason(1), 'b');
        CHECK.refused("an error was never", NoSuchElementException.class, () -> {
            Switchboard other = Boards.ofTwo();
            Boards.type(other, "cut 9");
            CHECK.refused("cut 9", UnsupportedOperationException.class, other::run);
            other.errorPosition();
        });
    }

    private static void allOrNothing() {
        Switchboard board = Boards.ofTwo();
        board.call(0, 1);
        board.pass(3);
        checkFailure(board, "switch;user 2/0;trunk 2-1=3;cut 1;wait 9;cut 1", 5);
        checkFailure(board, "hang 0;call 1>2;wait;call 2>3", 3);
        CHECK.equal("switches", board.switches(), 2);
        CHECK.equal("trunks", board.trunks(), 3);
        CHECK.equal("subscribers", board.subscribers(), 6);
        CHECK.no("isCut", board.isCut(1));
        CHECK.equal("the calls", Boards.calls(board), "0>1:3");
        CHECK.equal("the route", Boards.route(board, 0), "0");
        CHECK.equal("the minutes of the trunk", board.minutesOn(0), 3);
        CHECK.equal("the bills", board.totalBills(), 0);
        CHECK.equal("the charges", board.totalCharges(), 0);
        CHECK.refused("no call has ended", ArithmeticException.class, board::meanCharge);
        CHECK.equal("a failed run is no change", board.undo(), 7);
        CHECK.equal("undo takes the minutes", board.minutes(0), 0);
        CHECK.equal("a whole run", Boards.run(board, "hang 1;switch;cut 0"), 3);
        CHECK.equal("is one change", board.undo(), 7);
        CHECK.equal("that is undone at once", Boards.calls(board), "0>1:0");
        CHECK.equal("with its switch", board.switches(), 2);
    }

    // Promises 47 and 48: what is recorded stays until the next fault of its kind
    private static void recordsLast() {
        Switchboard board = Boards.ofTwo();
        checkFailure(board, "wait;cut 9", 1);
        CHECK.equal("the error of the rest", board.errorPosition(), 0);
        checkFailure(board, "cut 9", 0);
        Boards.type(board, "wait;x");
        CHECK.refused("wait;x", IllegalArgumentException.class, board::run);
        CHECK.equal("the latest error", board.errorPosition(), 5);
        CHECK.equal("the failure stays", board.failedCommand(), 0);
        Boards.run(board, "wait");
        CHECK.equal("the error stays", board.errorPosition(), 5);
        checkFailure(board, "wait;wait;cut 9", 2);
        board.undo();
        board.save();
        board.restore();
        CHECK.equal("restore keeps the failure", board.failedCommand(), 2);
        CHECK.equal("and the error", board.errorPosition(), 0);
    }
}
