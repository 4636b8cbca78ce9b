import java.util.function.Supplier;

/** Boundary sentences about blocked calls, statistics and output: promises 32 to 44. */
final class EdgeRecords {
    private static final Check CHECK = Edge.CHECK;
    private static final int[] WILD = {Integer.MIN_VALUE, -9, -8, -1, Integer.MAX_VALUE};

    private interface Numbered {
        int ask(Switchboard board, int number);
    }

    private EdgeRecords() {
    }

    static void tell() {
        Edge.at(Edge.TERMS, "a blocked call is recorded with its caller, its callee, and a reason, which is 'b' (busy) "
                + "if a subscriber is talking and 'r' (route) otherwise.", EdgeRecords::reasons);
        Edge.at(Edge.TERMS, "A call that fails for another reason is not recorded.", EdgeRecords::notRecorded);
        Edge.at(Edge.TERMS, "Only the 8 latest blocked calls are kept; they are numbered from 0 for the oldest one.",
                EdgeRecords::eightLatest);
        Edge.at(32, "Returns the number of blocked calls, at most 8.", EdgeRecords::countBlocked);
        tellBlocked(33, "Returns the caller of a blocked call.", Switchboard::blockedCaller, 1);
        tellBlocked(34, "Returns the callee of a blocked call.", Switchboard::blockedCallee, 2);
        tellBlocked(35, "Returns 'b' for busy, 'r' for route.", Switchboard::blockedReason, 'b');
        Edge.at(36, "Returns the sum of the bills of all subscribers.", EdgeRecords::sums);
        Edge.at(37, "Returns the same sum, as it was counted whenever a call ended.", EdgeRecords::sums);
        tellStatistics();
        tellOutput();
    }

    private static void tellBlocked(int promise, String words, Numbered part, int oldest) {
        Edge.at(promise, words, () -> parts(part, oldest));
        Edge.at(promise, "Throws `NoSuchElementException` if there is no such blocked call", () -> noBlocked(part));
    }

    private static void tellStatistics() {
        Edge.at(38, "sorted by their bills in descending order, then by their numbers in ascending order.",
                EdgeRecords::ranks);
        Edge.at(38, "- `rank`: the rank, counted from 0", EdgeRecords::firstAndLastRank);
        Edge.at(38, "Throws `NoSuchElementException` if there is no such rank", EdgeRecords::noRank);
        Edge.at(39, "the sum of the charges of all calls that have ended divided by their number, both converted to "
                + "double.", EdgeRecords::means);
        Edge.at(39, "Throws `ArithmeticException` if no call has ended", EdgeRecords::noEndedCall);
        Edge.at(40, "the number of trunks that are used by calls and the number of all trunks, both converted to "
                + "float.",
                EdgeRecords::shares);
        Edge.at(40, "Throws `ArithmeticException` if there are no trunks", EdgeRecords::noTrunks);
        Edge.at(41, "Returns true if the invariants hold.", EdgeRecords::consistent);
    }

    private static void tellOutput() {
        Edge.at(42, "which replaces its old content", EdgeRecords::trunkReplaces);
        Edge.at(42, "the smaller and the greater number of its switches with \"-\" between them, \"=\", the length, "
                + "and then \"x\" if it is cut, or \"*\" if a call uses it; for example \"0-3=12*\".",
                EdgeRecords::trunks);
        Edge.at(42, "Returns the length of the line.", EdgeRecords::trunkLineLength);
        Edge.at(42, "Throws `IndexOutOfBoundsException` if the trunk does not exist", EdgeRecords::noTrunk);
        Edge.at(43, "which replaces its old content", EdgeRecords::callsReplace);
        Edge.at(43, "for each call, in the order in which the calls were started, the caller, \">\", the callee, \":\" "
                + "and the minutes, with a blank between two; for example \"0>3:12 5>1:0\".", EdgeRecords::callLines);
        Edge.at(43, "The line is empty if there are no calls.", EdgeRecords::emptyLine);
        Edge.at(44, "Returns a character of the output line, which is initially empty.", EdgeRecords::initiallyEmpty);
        Edge.at(44, "- `index`: the index, counted from 0", EdgeRecords::firstAndLastCharacter);
        Edge.at(44, "Throws `IndexOutOfBoundsException` if the index is negative or not less than the length",
                EdgeRecords::noCharacter);
    }

    /** Ten subscribers at a switch, of whom 0 and 9 talk. */
    private static Switchboard oneTalk() {
        Switchboard board = Boards.withSwitches(1);
        for (int number = 0; number < 10; number++) {
            board.addSubscriber(0, 1);
        }
        board.call(0, 9);
        return board;
    }

    private static void block(Switchboard board, int caller, int callee) {
        CHECK.refused("call(" + caller + ", " + callee + ")", Edge.STATE, () -> board.call(caller, callee));
    }

    // Promises 32 to 35 and the terms

    private static void reasons() {
        Switchboard board = Boards.ofTwo();
        for (int trunk = 1; trunk < 3; trunk++) {
            board.cut(trunk);
        }
        board.call(0, 1);
        Boards.attempt(board, each -> each.call(2, 1));
        Boards.attempt(board, each -> each.call(2, 3));
        Boards.attempt(board, each -> each.call(0, 3));
        CHECK.equal("busy, no route, busy without a route too", Trace.blocked(board), "2b1 2r3 0b3");
    }

    private static void notRecorded() {
        Switchboard board = Boards.ofTwo();
        board.call(0, 1);
        int[][] pairs = {{6, 0}, {0, 6}, {-1, 2}, {2, -1}, {6, 6}, {0, 0}, {1, 1}, {2, 2}};
        for (int[] pair : pairs) {
            Boards.attempt(board, each -> each.call(pair[0], pair[1]));
            CHECK.equal("blocked calls", board.blockedCalls(), 0);
        }
        board.call(2, 3);
        CHECK.equal("nor one that is started", board.blockedCalls(), 0);
    }

    private static void eightLatest() {
        for (int times = 0; times <= 30; times++) {
            StringBuilder due = new StringBuilder();
            for (int turn = Math.max(0, times - 8); turn < times; turn++) {
                due.append(due.length() == 0 ? "" : " ").append(blockedPair(turn));
            }
            CHECK.equal("after " + times, Trace.blocked(blockedTimes(times)), due.toString());
        }
    }

    private static void countBlocked() {
        Switchboard board = oneTalk();
        CHECK.equal("none", board.blockedCalls(), 0);
        for (int count = 1; count <= 20; count++) {
            block(board, 1, 0);
            CHECK.equal("after " + count, board.blockedCalls(), Math.min(count, 8));
        }
        board.undo();
        CHECK.equal("undo takes none", board.blockedCalls(), 8);
    }

    private static Switchboard blockedTimes(int times) {
        Switchboard board = oneTalk();
        for (int turn = 0; turn < times; turn++) {
            String pair = blockedPair(turn);
            block(board, pair.charAt(0) - '0', pair.charAt(2) - '0');
        }
        return board;
    }

    /** Another caller each time, and now the one and now the other who talks. */
    private static String blockedPair(int turn) {
        return (1 + turn % 8) + "b" + (turn % 3 == 0 ? 0 : 9);
    }

    private static void parts(Numbered part, int oldest) {
        Switchboard board = Boards.ofTwo();
        board.cut(1);
        board.cut(2);
        board.call(0, 5);
        Boards.attempt(board, each -> each.call(2, 3));
        CHECK.equal("the only one", part.ask(board, 0), oldest == 'b' ? 'r' : oldest == 1 ? 2 : 3);
        for (int turn = 0; turn < 8; turn++) {
            int callee = turn == 0 ? 0 : 5;
            Boards.attempt(board, each -> each.call(1, callee));
        }
        CHECK.equal("number 0 of eight", part.ask(board, 0), oldest == 'b' ? 'b' : oldest == 1 ? 1 : 0);
        CHECK.equal("number 7 of eight", part.ask(board, 7), oldest == 'b' ? 'b' : oldest == 1 ? 1 : 5);
        Boards.attempt(board, each -> each.call(3, 4));
        CHECK.equal("number 0 after one more", part.ask(board, 0), oldest == 'b' ? 'b' : oldest == 1 ? 1 : 5);
        CHECK.equal("number 7 after one more", part.ask(board, 7), oldest == 'b' ? 'r' : oldest == 1 ? 3 : 4);
    }

    private static void noBlocked(Numbered part) {
        int[] counts = {0, 1, 7, 8, 9, 20};
        for (int count : counts) {
            Supplier<Switchboard> maker = () -> blockedTimes(count);
            int kept = Math.min(count, 8);
            Edge.refused("number " + kept + " of " + kept, Edge.ELEMENT, maker, board -> part.ask(board, kept));
            Edge.refused("number -1 of " + kept, Edge.ELEMENT, maker, board -> part.ask(board, -1));
            if (kept > 0) {
                Edge.inside("number 0 of " + kept, Edge.ELEMENT, maker, board -> part.ask(board, 0));
                Edge.inside("the last of " + kept, Edge.ELEMENT, maker, board -> part.ask(board, kept - 1));
            }
        }
        for (int number : WILD) {
            Edge.refused("number " + number, Edge.ELEMENT, Boards::rich, board -> part.ask(board, number));
        }
    }

    // Promises 36 to 41

    private static void checkSums(String what, Switchboard board, long want) {
        CHECK.equal("totalBills, " + what, board.totalBills(), want);
        CHECK.equal("totalCharges, " + what, board.totalCharges(), want);
    }

    private static void sums() {
        checkSums("a new object", new Switchboard(), 0);
        Switchboard board = Boards.full();
        checkSums("ten subscribers", board, 0);
        board.pass(10);
        checkSums("running calls", board, 0);
        board.hangUp(0);
        checkSums("the first", board, 25);
        board.hangUp(4);
        checkSums("the last", board, 85);
        for (int trunk = 0; trunk < 16; trunk++) {
            board.cut(trunk);
        }
        CHECK.equal("calls", board.calls(), 0);
        long bills = 0;
        for (int number = 0; number < 10; number++) {
            bills += board.bill(number);
        }
        checkSums("all ended, some by a lost route", board, bills);
        CHECK.yes("they are charged", bills > 85 + 25);
        Switchboard tenth = Boards.withSwitches(1);
        for (int number = 0; number < 10; number++) {
            tenth.addSubscriber(0, 0);
        }
        tenth.call(9, 0);
        tenth.hangUp(0);
        checkSums("the bill of the tenth", tenth, 25);
        tenth.undo();
        checkSums("undone", tenth, 0);
    }

    private static void checkRanks(String what, Switchboard board, int... want) {
        StringBuilder got = new StringBuilder();
        StringBuilder due = new StringBuilder();
        for (int rank = 0; rank < want.length; rank++) {
            got.append(board.subscriberByBill(rank)).append(' ');
            due.append(want[rank]).append(' ');
        }
        CHECK.equal(what, got.toString(), due.toString());
    }

    private static void ranks() {
        Switchboard board = Boards.full();
        checkRanks("all bills are 0", board, 0, 1, 2, 3, 4, 5, 6, 7, 8, 9);
        board.pass(10);
        for (int caller = 0; caller < 5; caller++) {
            board.hangUp(caller);
        }
        checkRanks("0 and 3 have the same", board, 4, 1, 0, 3, 2, 5, 6, 7, 8, 9);
        board.call(9, 0);
        board.hangUp(0);
        board.call(9, 0);
        board.hangUp(0);
        board.call(9, 0);
        board.hangUp(0);
        checkRanks("the last has most", board, 9, 4, 1, 0, 3, 2, 5, 6, 7, 8);
    }

    private static void firstAndLastRank() {
        Switchboard one = Boards.withSwitches(1);
        one.addSubscriber(0, 0);
        CHECK.equal("rank 0 of one", one.subscriberByBill(0), 0);
        CHECK.equal("rank 0 of ten", Boards.full().subscriberByBill(0), 0);
        CHECK.equal("rank 9 of ten", Boards.full().subscriberByBill(9), 9);
    }

    private static void noRank() {
        Edge.refused("rank 0 of none", Edge.ELEMENT, Switchboard::new, board -> board.subscriberByBill(0));
        Edge.refused("rank -1 of none", Edge.ELEMENT, Switchboard::new, board -> board.subscriberByBill(-1));
        Edge.refused("rank 7 of seven", Edge.ELEMENT, Boards::rich, board -> board.subscriberByBill(7));
        Edge.refused("rank 10 of ten", Edge.ELEMENT, Boards::full, board -> board.subscriberByBill(10));
        for (int rank : WILD) {
            Edge.refused("rank " + rank, Edge.ELEMENT, Boards::rich, board -> board.subscriberByBill(rank));
        }
        Edge.inside("rank 6 of seven", Edge.ELEMENT, Boards::rich, board -> board.subscriberByBill(6));
    }

    private static void means() {
        Switchboard board = Boards.ofTwo();
        board.call(0, 1);
        board.hangUp(0);
        CHECK.equal("0 / 1", board.meanCharge(), 0.0);
        board.call(0, 2);
        board.pass(1);
        board.hangUp(2);
        CHECK.equal("1 / 2", board.meanCharge(), 1.0 / 2.0);
        board.call(0, 2);
        board.hangUp(2);
        CHECK.equal("1 / 3", board.meanCharge(), 1.0 / 3.0);
        board.call(0, 1);
        board.pass(2);
        board.cut(1);
        board.cut(2);
        CHECK.equal("a running call does not count", board.meanCharge(), 1.0 / 3.0);
        board.cut(0);
        CHECK.equal("a lost one does: 9 / 4", board.meanCharge(), 9.0 / 4.0);
    }

    private static void noEndedCall() {
        Edge.refused("an empty board", Edge.ARITHMETIC, Switchboard::new, Switchboard::meanCharge);
        Edge.refused("five running calls", Edge.ARITHMETIC, Boards::full, Switchboard::meanCharge);
        Edge.refused("hangUp undone", Edge.ARITHMETIC, () -> {
            Switchboard board = Boards.full();
            board.hangUp(0);
            board.undo();
            return board;
        }, Switchboard::meanCharge);
        Edge.refused("restored", Edge.ARITHMETIC, () -> {
            Switchboard board = oneTalk();
            board.save();
            board.hangUp(0);
            board.restore();
            return board;
        }, Switchboard::meanCharge);
    }

    private static void shares() {
        Switchboard board = Boards.withSwitches(2);
        for (int number = 0; number < 10; number++) {
            board.addSubscriber(number % 2, 0);
        }
        board.addTrunk(0, 1, 5);
        CHECK.equal("0 / 1", board.usedShare(), 0.0f);
        board.call(0, 1);
        CHECK.equal("1 / 1", board.usedShare(), 1.0f);
        board.addTrunk(0, 1, 5);
        board.addTrunk(0, 1, 5);
        CHECK.equal("1 / 3", board.usedShare(), 1.0f / 3.0f);
        board.cut(2);
        CHECK.equal("1 / 3 with a cut one", board.usedShare(), 1.0f / 3.0f);
        board.call(2, 4);
        CHECK.equal("1 / 3 with a call without trunks", board.usedShare(), 1.0f / 3.0f);
        board.call(3, 6);
        CHECK.equal("2 / 3", board.usedShare(), 2.0f / 3.0f);
        Switchboard chain = Boards.withSwitches(8);
        for (int number = 0; number < 7; number++) {
            chain.addTrunk(number, number + 1, 1);
        }
        for (int number = 0; number < 9; number++) {
            chain.addTrunk(0, 1, 20);
        }
        chain.addSubscriber(0, 0);
        chain.addSubscriber(7, 0);
        chain.call(0, 1);
        CHECK.equal("7 / 16", chain.usedShare(), 7.0f / 16.0f);
        CHECK.equal("5 / 16", Boards.full().usedShare(), 5.0f / 16.0f);
    }

    private static void noTrunks() {
        Edge.refused("an empty board", Edge.ARITHMETIC, Switchboard::new, Switchboard::usedShare);
        Edge.refused("with a call", Edge.ARITHMETIC, EdgeRecords::oneTalk, Switchboard::usedShare);
        Edge.refused("addTrunk undone", Edge.ARITHMETIC, () -> {
            Switchboard board = Boards.withSwitches(2);
            board.addTrunk(0, 1, 1);
            board.undo();
            return board;
        }, Switchboard::usedShare);
    }

    private static void consistent() {
        CHECK.yes("an empty board", new Switchboard().isConsistent());
        CHECK.yes("one switch", Boards.withSwitches(1).isConsistent());
        CHECK.yes("eight switches without trunks", Boards.withSwitches(8).isConsistent());
        CHECK.yes("something of everything", Boards.rich().isConsistent());
        Switchboard board = Boards.full();
        CHECK.yes("a full board", board.isConsistent());
        board.pass(60);
        for (int trunk = 0; trunk < 16; trunk++) {
            board.cut(trunk);
            CHECK.yes("after cut(" + trunk + ")", board.isConsistent());
        }
        for (int step = 0; step < 8; step++) {
            board.undo();
            CHECK.yes("after undo", board.isConsistent());
        }
    }

    // Promises 42 to 44

    private static void trunkReplaces() {
        Switchboard board = Boards.full();
        board.writeCalls();
        CHECK.equal("a long line before", Boards.trunk(board, 0), "0-1=1*");
        CHECK.refused("charAt behind it", Edge.INDEX, () -> board.charAt(6));
    }

    private static void trunks() {
        Switchboard board = Boards.full();
        board.cut(14);
        String[] due = {"0-1=1*", "1-2=2*", "2-3=3*", "3-4=4*", "4-5=5*", "5-6=6", "6-7=7", "0-7=8", "0-1=9", "1-2=10",
            "2-3=11", "3-4=12", "4-5=13", "5-6=14", "6-7=15x", "0-7=16"};
        for (int trunk = 0; trunk < 16; trunk++) {
            CHECK.equal("trunk " + trunk, Boards.trunk(board, trunk), due[trunk]);
        }
        board.cut(0);
        CHECK.equal("a used one, cut", Boards.trunk(board, 0), "0-1=1x");
        CHECK.equal("the one that takes its call", Boards.trunk(board, 8), "0-1=9*");
        board.mend(0);
        CHECK.equal("mended", Boards.trunk(board, 0), "0-1=1");
    }

    private static void trunkLineLength() {
        Switchboard board = Boards.withSwitches(2);
        board.addTrunk(1, 0, 9);
        board.addTrunk(1, 0, 10);
        CHECK.equal("the shortest", board.writeTrunk(0), 5);
        CHECK.equal("two digits", board.writeTrunk(1), 6);
        board.cut(1);
        CHECK.equal("the longest", board.writeTrunk(1), 7);
    }

    private static void noTrunk() {
        int[] numbers = {Integer.MIN_VALUE, -1, 6, 16, Integer.MAX_VALUE};
        for (int number : numbers) {
            Edge.refused("trunk " + number, Edge.INDEX, Boards::rich, board -> board.writeTrunk(number));
        }
        Edge.refused("trunk 0 of none", Edge.INDEX, Switchboard::new, board -> board.writeTrunk(0));
        Edge.refused("trunk 16 of 16", Edge.INDEX, Boards::full, board -> board.writeTrunk(16));
        CHECK.equal("trunk 5 of 6", Boards.rich().writeTrunk(5), 5);
        CHECK.equal("trunk 15 of 16", Boards.full().writeTrunk(15), 6);
    }

    private static void callsReplace() {
        Switchboard board = Boards.full();
        board.writeCalls();
        for (int caller = 1; caller < 5; caller++) {
            board.hangUp(caller);
        }
        CHECK.equal("a longer line before", Boards.calls(board), "0>9:0");
        CHECK.refused("charAt behind it", Edge.INDEX, () -> board.charAt(5));
        board.writeTrunk(0);
        CHECK.equal("a trunk before", Boards.calls(board), "0>9:0");
    }

    private static void callLines() {
        Switchboard board = Boards.full();
        CHECK.equal("five", Boards.calls(board), "0>9:0 1>8:0 2>7:0 3>6:0 4>5:0");
        board.hangUp(0);
        CHECK.equal("without the oldest", Boards.calls(board), "1>8:0 2>7:0 3>6:0 4>5:0");
        board.pass(9);
        board.hangUp(3);
        board.pass(1);
        CHECK.equal("without a middle one", Boards.calls(board), "1>8:10 2>7:10 4>5:10");
        board.call(9, 0);
        board.call(6, 3);
        CHECK.equal("new ones at the end", Boards.calls(board), "1>8:10 2>7:10 4>5:10 9>0:0 6>3:0");
        board.hangUp(3);
        CHECK.equal("without the latest", Boards.calls(board), "1>8:10 2>7:10 4>5:10 9>0:0");
        board.cut(2);
        CHECK.equal("a way round keeps the place", Boards.calls(board), "1>8:10 2>7:10 4>5:10 9>0:0");
        Switchboard hours = oneTalk();
        for (int hour = 0; hour < 400; hour++) {
            hours.pass(60);
        }
        CHECK.equal("the length with 24000 minutes", hours.writeCalls(), 9);
        CHECK.equal("24000 minutes", Boards.calls(hours), "0>9:24000");
    }

    private static void emptyLine() {
        CHECK.equal("an empty board", new Switchboard().writeCalls(), 0);
        Switchboard board = oneTalk();
        CHECK.equal("one call", board.writeCalls(), 5);
        board.hangUp(0);
        CHECK.equal("none", board.writeCalls(), 0);
        CHECK.refused("charAt(0)", Edge.INDEX, () -> board.charAt(0));
    }

    private static void initiallyEmpty() {
        Edge.refused("an empty board", Edge.INDEX, Switchboard::new, board -> board.charAt(0));
        Edge.refused("a full one", Edge.INDEX, Boards::full, board -> board.charAt(0));
    }

    private static void firstAndLastCharacter() {
        Switchboard board = Boards.full();
        int length = board.writeCalls();
        CHECK.equal("the length", length, 29);
        CHECK.equal("the first", board.charAt(0), '0');
        CHECK.equal("the second", board.charAt(1), '>');
        CHECK.equal("the last", board.charAt(28), '0');
        CHECK.equal("the last but one", board.charAt(27), ':');
    }

    private static void noCharacter() {
        for (int index : WILD) {
            Edge.refused("index " + index, Edge.INDEX, Boards::rich, board -> board.charAt(index));
        }
        Edge.refused("index 6 of 6", Edge.INDEX, Boards::rich, board -> board.charAt(6));
        CHECK.equal("index 5 of 6", Boards.rich().charAt(5), '*');
        Switchboard board = Boards.full();
        board.writeCalls();
        CHECK.refused("index 29 of 29", Edge.INDEX, () -> board.charAt(29));
        CHECK.equal("index 28 of 29", board.charAt(28), '0');
    }
}
