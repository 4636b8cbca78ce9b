import java.util.function.Supplier;

/** Boundary sentences about subscribers and calls: promises 4, 7 to 9 and 21 to 31. */
final class EdgeCalls {
    private static final Check CHECK = Edge.CHECK;
    private static final String NO_SUBSCRIBER =
            "Throws `IndexOutOfBoundsException` if the subscriber does not exist";
    private static final String NOT_TALKING = "Throws `NoSuchElementException` if the subscriber is not talking";
    private static final int[] NO_RICH_SUBSCRIBER = {Integer.MIN_VALUE, -1, 7, 10, Integer.MAX_VALUE};
    // Both are at switch 3 of the rich board and do not talk; nor does subscriber 6, who is cut off from them.
    private static final int FREE = 1;
    private static final int FREE_TOO = 5;
    private static final int CUT_OFF = 6;

    private interface SubscriberCall {
        void make(Switchboard board, int subscriber);
    }

    private EdgeCalls() {
    }

    static void tell() {
        tellSubscribers();
        tellStarts();
        tellEnds();
        tellTariffs();
        tellQuestions();
    }

    private static void tellSubscribers() {
        Edge.at(Edge.TERMS, "There are at most 10 subscribers, numbered from 0 in the order in which they were added.",
                EdgeCalls::tenSubscribers);
        Edge.at(Edge.TERMS, "A subscriber is attached to a switch and has a tariff and a bill, which is initially 0.",
                EdgeCalls::newSubscriber);
        Edge.at(4, "Throws `IndexOutOfBoundsException` if the switch does not exist", EdgeCalls::noHome);
        Edge.at(4, "Throws `IllegalArgumentException` if there is no such tariff", EdgeCalls::noTariff);
        Edge.at(4, "Throws `IllegalStateException` if there are 10 subscribers", EdgeCalls::eleventhSubscriber);
    }

    private static void tellStarts() {
        Edge.at(Edge.TERMS, "A call has a caller, a callee, a route from the switch of the caller to the switch of "
                + "the callee, and minutes, which are initially 0.", EdgeCalls::newCall);
        Edge.at(Edge.TERMS, "A call that is started uses the best route over the free trunks.", EdgeCalls::freeTrunks);
        Edge.at(7, "Returns the length of its route.", EdgeCalls::callAnswers);
        Edge.at(7, "Throws `IndexOutOfBoundsException` if one of the subscribers does not exist",
                EdgeCalls::callWithoutSubscriber);
        Edge.at(7, "Throws `IllegalArgumentException` if both subscribers are the same one", EdgeCalls::callToOneself);
        Edge.at(7, "Throws `IllegalStateException` if one of the subscribers is talking; a blocked call is recorded",
                EdgeCalls::busy);
        Edge.at(7, "Throws `UnsupportedOperationException` if there is no route over free trunks; "
                + "a blocked call is recorded", EdgeCalls::noRoute);
    }

    private static void tellEnds() {
        Edge.at(Edge.TERMS, "A call ends when one of both subscribers hangs up, or when it loses its route; then its "
                + "trunks are not used any more, and its charge is added to the bill of the caller.", EdgeCalls::ends);
        Edge.at(8, "Ends the call of a subscriber, who may be its caller or its callee.", EdgeCalls::eitherEnds);
        Edge.at(8, "Returns the charge.", EdgeCalls::hangUpAnswers);
        Edge.at(8, NO_SUBSCRIBER, () -> noSubscriber("hangUp", Switchboard::hangUp));
        Edge.at(8, "Throws `IllegalStateException` if the subscriber is not talking", EdgeCalls::hangUpSilent);
        Edge.at(9, "by which the minutes of all calls increase.", EdgeCalls::passAll);
        Edge.at(9, "- `minutes`: the number of minutes, 1 to 60", EdgeCalls::passInside);
        Edge.at(9, "Returns the number of calls.", EdgeCalls::passAnswers);
        Edge.at(9, "Throws `IllegalArgumentException` if the number is out of range", EdgeCalls::passOutside);
    }

    private static void tellTariffs() {
        Edge.at(Edge.TERMS, "The charge of a call depends on the tariff of the caller.", EdgeCalls::callersTariff);
        Edge.at(Edge.TERMS, "With the tariff 0 it is 25.", EdgeCalls::tariffZero);
        Edge.at(Edge.TERMS, "With the tariff 1 it is the number of minutes multiplied by the sum of the length of the "
                + "route and 1.", EdgeCalls::tariffOne);
        Edge.at(Edge.TERMS, "With the tariff 2 it is half of that product, rounded up.", EdgeCalls::tariffTwo);
        Edge.at(Edge.TERMS, "The length is that of the present route of the call.", EdgeCalls::presentRoute);
    }

    private static void tellQuestions() {
        Edge.at(21, "Returns the number of subscribers.", EdgeCalls::countSubscribers);
        Edge.at(22, "Returns the switch to which a subscriber is attached.", EdgeCalls::homes);
        Edge.at(22, NO_SUBSCRIBER, () -> noSubscriber("home", Switchboard::home));
        Edge.at(23, "Returns the tariff.", EdgeCalls::tariffs);
        Edge.at(23, NO_SUBSCRIBER, () -> noSubscriber("tariff", Switchboard::tariff));
        Edge.at(24, "without the charge of a call that is going on.", EdgeCalls::billWithoutCall);
        Edge.at(24, NO_SUBSCRIBER, () -> noSubscriber("bill", Switchboard::bill));
        Edge.at(Edge.TERMS, "A subscriber who is the caller or the callee of a call is talking.", EdgeCalls::talking);
        Edge.at(25, "Returns true if the subscriber is talking.", EdgeCalls::talkingWhile);
        Edge.at(25, NO_SUBSCRIBER, () -> noSubscriber("isTalking", Switchboard::isTalking));
        Edge.at(26, "Returns the other subscriber of the call.", EdgeCalls::partners);
        tellTalking(26, "partner", Switchboard::partner);
        Edge.at(27, "Returns the minutes of the call of a subscriber.", EdgeCalls::minutesOfCalls);
        tellTalking(27, "minutes", Switchboard::minutes);
        Edge.at(28, "Returns the number of trunks of the call of a subscriber.", EdgeCalls::routeSizes);
        tellTalking(28, "routeSize", Switchboard::routeSize);
        Edge.at(29, "as its route is seen from the caller.", EdgeCalls::seenFromCaller);
        Edge.at(29, NO_SUBSCRIBER, () -> noSubscriber("routeTrunk", (board, one) -> board.routeTrunk(one, 0)));
        Edge.at(29, NOT_TALKING + ", or there is no such index", EdgeCalls::noRouteTrunk);
        Edge.at(30, "Returns the charge of the call of a subscriber if it ended now.", EdgeCalls::chargeIsHangUp);
        tellTalking(30, "chargeNow", Switchboard::chargeNow);
        Edge.at(31, "Returns the number of calls that are going on.", EdgeCalls::countCalls);
    }

    private static void tellTalking(int promise, String name, SubscriberCall call) {
        Edge.at(promise, NO_SUBSCRIBER, () -> noSubscriber(name, call));
        Edge.at(promise, NOT_TALKING, () -> notTalking(name, Edge.ELEMENT, call));
    }

    private static void noSubscriber(String name, SubscriberCall call) {
        for (int number : NO_RICH_SUBSCRIBER) {
            Edge.refused(name + " of " + number, Edge.INDEX, Boards::rich, board -> call.make(board, number));
        }
        Edge.refused(name + " of 0 of none", Edge.INDEX, () -> Boards.withSwitches(1), board -> call.make(board, 0));
        Edge.refused(name + " of 10 of 10", Edge.INDEX, Boards::full, board -> call.make(board, 10));
        Edge.inside(name + " of 0", Edge.INDEX, Boards::rich, board -> call.make(board, 0));
        Edge.inside(name + " of 6 of 7", Edge.INDEX, Boards::rich, board -> call.make(board, 6));
        Edge.inside(name + " of 9 of 10", Edge.INDEX, Boards::full, board -> call.make(board, 9));
    }

    private static void notTalking(String name, Class<? extends RuntimeException> due, SubscriberCall call) {
        Edge.refused(name + " of a free one", due, Boards::rich, board -> call.make(board, FREE));
        Edge.refused(name + " of the last", due, Boards::rich, board -> call.make(board, CUT_OFF));
        Supplier<Switchboard> hungUp = Boards.richAnd(board -> board.hangUp(2));
        Edge.refused(name + " after hangUp by the caller", due, hungUp, board -> call.make(board, 2));
        Edge.refused(name + " after it by the callee", due, hungUp, board -> call.make(board, 3));
        Supplier<Switchboard> lost = Boards.richAnd(board -> board.cut(1));
        Edge.refused(name + " after a lost route", due, lost, board -> call.make(board, 3));
        Supplier<Switchboard> undone = Boards.richAnd(board -> {
            board.call(FREE, FREE_TOO);
            board.undo();
        });
        Edge.refused(name + " after an undone call", due, undone, board -> call.make(board, FREE_TOO));
        Supplier<Switchboard> fullEnded = () -> {
            Switchboard board = Boards.full();
            board.hangUp(4);
            return board;
        };
        Edge.refused(name + " after the last of five", due, fullEnded, board -> call.make(board, 5));
        Edge.inside(name + " of a caller", due, Boards::rich, board -> call.make(board, 2));
        Edge.inside(name + " of a callee", due, Boards::rich, board -> call.make(board, 4));
    }

    private static Switchboard tenAtOneSwitch() {
        Switchboard board = Boards.withSwitches(1);
        for (int number = 0; number < 10; number++) {
            board.addSubscriber(0, 1);
        }
        return board;
    }

    // Promise 4 and the terms

    private static void tenSubscribers() {
        Switchboard board = Boards.withSwitches(8);
        for (int number = 0; number < 10; number++) {
            CHECK.equal("addSubscriber", board.addSubscriber(number % 8, number % 3), number);
        }
        for (int number = 0; number < 10; number++) {
            CHECK.equal("home of " + number, board.home(number), number % 8);
            CHECK.equal("tariff of " + number, board.tariff(number), number % 3);
        }
        CHECK.equal("the tenth calls", board.call(9, 1), 0);
    }

    private static void newSubscriber() {
        Switchboard board = Boards.rich();
        int one = board.addSubscriber(3, 2);
        CHECK.equal("the number", one, 7);
        CHECK.equal("the switch", board.home(one), 3);
        CHECK.equal("the tariff", board.tariff(one), 2);
        CHECK.equal("the bill", board.bill(one), 0);
        CHECK.no("isTalking", board.isTalking(one));
    }

    private static void noHome() {
        int[] numbers = {Integer.MIN_VALUE, -1, 4, 8, Integer.MAX_VALUE};
        for (int number : numbers) {
            Edge.refused("home " + number, Edge.INDEX, Boards::rich, board -> board.addSubscriber(number, 0));
        }
        Edge.refused("home 0 of none", Edge.INDEX, Switchboard::new, board -> board.addSubscriber(0, 0));
        Edge.refused("home 8 of 8", Edge.INDEX, () -> Boards.withSwitches(8), board -> board.addSubscriber(8, 0));
        CHECK.equal("home 0", Boards.rich().addSubscriber(0, 0), 7);
        CHECK.equal("home 3 of 4", Boards.rich().addSubscriber(3, 0), 7);
        CHECK.equal("home 7 of 8", Boards.withSwitches(8).addSubscriber(7, 0), 0);
    }

    private static void noTariff() {
        int[] tariffs = {Integer.MIN_VALUE, -1, 3, 4, Integer.MAX_VALUE};
        for (int tariff : tariffs) {
            Edge.refused("tariff " + tariff, Edge.ARGUMENT, Boards::rich, board -> board.addSubscriber(0, tariff));
        }
        for (int tariff = 0; tariff <= 2; tariff++) {
            CHECK.equal("tariff " + tariff, Boards.rich().addSubscriber(0, tariff), 7);
        }
    }

    private static void eleventhSubscriber() {
        Supplier<Switchboard> ten = Boards.richAnd(board -> {
            board.addSubscriber(1, 0);
            board.addSubscriber(2, 1);
            board.addSubscriber(3, 2);
        });
        Edge.refused("the eleventh", Edge.STATE, ten, board -> board.addSubscriber(0, 0));
        Edge.refused("with all talking", Edge.STATE, Boards::full, board -> board.addSubscriber(7, 2));
        Switchboard nine = ten.get();
        nine.undo();
        CHECK.equal("the tenth", nine.addSubscriber(0, 0), 9);
    }

    // Promise 7 and the terms

    private static void newCall() {
        Switchboard board = Boards.rich();
        board.call(FREE, FREE_TOO);
        CHECK.equal("minutes", board.minutes(FREE), 0);
        CHECK.equal("the third of the calls", Boards.calls(board), "2>3:5 0>4:5 1>5:0");
        board.pass(60);
        board.hangUp(FREE);
        board.call(FREE_TOO, FREE);
        CHECK.equal("minutes of the next", board.minutes(FREE), 0);
        CHECK.equal("caller and callee", Boards.calls(board), "2>3:65 0>4:65 5>1:0");
    }

    private static void freeTrunks() {
        Switchboard board = Boards.ofTwo();
        board.call(0, 1);
        board.cut(1);
        CHECK.equal("the length without a used and a cut one", board.call(2, 3), 5);
        CHECK.equal("the trunk", Boards.route(board, 2), "2");
        CHECK.equal("the first call keeps its own", Boards.route(board, 0), "0");
    }

    private static void callAnswers() {
        CHECK.equal("within a switch", tenAtOneSwitch().call(9, 0), 0);
        Switchboard board = Boards.withSwitches(8);
        for (int number = 0; number < 7; number++) {
            board.addTrunk(number, number + 1, 20);
        }
        board.addTrunk(0, 1, 1);
        for (int number = 0; number < 8; number++) {
            board.addSubscriber(number, 0);
        }
        CHECK.equal("over a trunk of the length 1", board.call(0, 1), 1);
        board.undo();
        board.cut(7);
        CHECK.equal("over seven of the length 20", board.call(0, 7), 140);
    }

    private static void callWithoutSubscriber() {
        for (int number : NO_RICH_SUBSCRIBER) {
            Edge.refused("caller " + number, Edge.INDEX, Boards::rich, board -> board.call(number, FREE));
            Edge.refused("callee " + number, Edge.INDEX, Boards::rich, board -> board.call(FREE, number));
            Edge.refused("with a busy one", Edge.INDEX, Boards::rich, board -> board.call(number, 0));
        }
        Edge.refused("0 of none", Edge.INDEX, () -> Boards.withSwitches(1), board -> board.call(0, 1));
        Edge.refused("10 of 10", Edge.INDEX, EdgeCalls::tenAtOneSwitch, board -> board.call(10, 9));
        CHECK.equal("9 of 10", tenAtOneSwitch().call(9, 0), 0);
        CHECK.equal("to 9 of 10", tenAtOneSwitch().call(0, 9), 0);
    }

    private static void callToOneself() {
        for (int number = 0; number < 7; number++) {
            int one = number;
            Edge.refused("subscriber " + one, Edge.ARGUMENT, Boards::rich, board -> board.call(one, one));
        }
    }

    private static void busy() {
        int[][] pairs = {{0, FREE}, {4, FREE}, {FREE, 0}, {FREE, 4}, {2, 4}, {2, 3}, {3, 2}};
        for (int[] pair : pairs) {
            String record = pair[0] + "b" + pair[1];
            Edge.refusedAndRecorded(record, Edge.STATE, record, Boards::rich, board -> board.call(pair[0], pair[1]));
        }
        Edge.refusedAndRecorded("the first record", Edge.STATE, "1b0", () -> {
            Switchboard board = tenAtOneSwitch();
            board.call(0, 9);
            return board;
        }, board -> board.call(1, 0));
        Edge.refusedAndRecorded("all ten talk", Edge.STATE, "9b5", Boards::full, board -> board.call(9, 5));
        CHECK.equal("no more after hangUp", Boards.richAnd(board -> board.hangUp(0)).get().call(4, 0), 0);
    }

    private static void noRoute() {
        Edge.refusedAndRecorded("used and cut", Edge.UNSUPPORTED, "6r1", Boards::rich, board -> board.call(CUT_OFF, 1));
        Edge.refusedAndRecorded("and back", Edge.UNSUPPORTED, "5r6", Boards::rich, board -> board.call(5, CUT_OFF));
        Edge.refusedAndRecorded("without trunks", Edge.UNSUPPORTED, "0r1", () -> {
            Switchboard board = Boards.withSwitches(2);
            board.addSubscriber(0, 0);
            board.addSubscriber(1, 0);
            return board;
        }, board -> board.call(0, 1));
        CHECK.equal("mended", Boards.richAnd(board -> board.mend(4)).get().call(CUT_OFF, 1), 20);
        CHECK.equal("free again", Boards.richAnd(board -> board.hangUp(2)).get().call(CUT_OFF, 1), 12);
    }

    // Promises 8, 9 and the terms

    private static void ends() {
        Switchboard board = Boards.full();
        board.pass(10);
        long sum = 0;
        int[] charges = {25, 30, 20, 25, 60};
        int[] enders = {5, 0, 2, 6, 8};
        int[] callers = {4, 0, 2, 3, 1};
        int[] dues = {60, 25, 20, 25, 30};
        for (int turn = 0; turn < 5; turn++) {
            int trunk = board.routeTrunk(enders[turn], 0);
            CHECK.equal("hangUp(" + enders[turn] + ")", board.hangUp(enders[turn]), dues[turn]);
            sum += dues[turn];
            CHECK.equal("calls left", board.calls(), 4 - turn);
            CHECK.equal("the bill", board.bill(callers[turn]), charges[callers[turn]]);
            CHECK.equal("all charges", board.totalCharges(), sum);
            CHECK.refused("the user of its trunk", Edge.ELEMENT, () -> board.userOf(trunk));
        }
        CHECK.equal("no trunk is used", board.usedShare(), 0.0f);
        Switchboard cut = Boards.ofTwo();
        cut.cut(2);
        cut.cut(1);
        cut.call(1, 0);
        cut.pass(2);
        cut.cut(0);
        CHECK.equal("the bill by a lost route", cut.bill(1), 8);
        CHECK.equal("not the callee's", cut.bill(0), 0);
        cut.mend(0);
        CHECK.equal("its trunk is free", cut.call(2, 3), 3);
    }

    private static void eitherEnds() {
        Switchboard caller = Boards.rich();
        caller.hangUp(2);
        CHECK.equal("by the caller", Boards.calls(caller), "0>4:5");
        Switchboard callee = Boards.rich();
        callee.hangUp(4);
        CHECK.equal("by the callee", Boards.calls(callee), "2>3:5");
        for (int number = 0; number < 10; number++) {
            Switchboard board = Boards.full();
            int other = board.partner(number);
            board.hangUp(number);
            CHECK.equal("calls after hangUp(" + number + ")", board.calls(), 4);
            CHECK.no(number + " talks", board.isTalking(number));
            CHECK.no(other + " talks", board.isTalking(other));
            for (int third = 0; third < 10; third++) {
                if (third != number && third != other) {
                    CHECK.equal("partner of " + third, board.partner(third), 9 - third);
                }
            }
        }
    }

    private static void hangUpAnswers() {
        int[] dues = {25, 0, 0};
        for (int tariff = 0; tariff < 3; tariff++) {
            Switchboard board = Boards.withSwitches(1);
            board.addSubscriber(0, tariff);
            board.addSubscriber(0, 2 - tariff);
            board.call(0, 1);
            CHECK.equal("at once, tariff " + tariff, board.hangUp(1), dues[tariff]);
        }
        Switchboard dear = longCall(1);
        CHECK.equal("the dearest call", dear.hangUp(0), 450 * 60 * 141);
        CHECK.equal("its bill", dear.bill(0), 450 * 60 * 141);
        CHECK.equal("its sum", dear.totalCharges(), 450 * 60 * 141);
        CHECK.equal("the half of it", longCall(2).hangUp(1), 450 * 30 * 141);
        CHECK.equal("the flat one", longCall(0).hangUp(1), 25);
    }

    /** 450 hours over seven trunks of the length 20. */
    private static Switchboard longCall(int tariff) {
        Switchboard board = Boards.withSwitches(8);
        for (int number = 0; number < 7; number++) {
            board.addTrunk(number, number + 1, 20);
        }
        board.addSubscriber(0, tariff);
        board.addSubscriber(7, 0);
        board.call(0, 1);
        for (int hour = 0; hour < 450; hour++) {
            board.pass(60);
        }
        return board;
    }

    private static void hangUpSilent() {
        notTalking("hangUp", Edge.STATE, Switchboard::hangUp);
    }

    private static void passAll() {
        Switchboard board = Boards.full();
        board.pass(3);
        CHECK.equal("all five", Boards.calls(board), "0>9:3 1>8:3 2>7:3 3>6:3 4>5:3");
        board.hangUp(0);
        board.call(0, 9);
        board.pass(60);
        CHECK.equal("a new one too", Boards.calls(board), "1>8:63 2>7:63 3>6:63 4>5:63 0>9:60");
    }

    private static void passInside() {
        int[] inside = {1, 2, 59, 60};
        for (int minutes : inside) {
            Switchboard board = Boards.rich();
            CHECK.equal("pass(" + minutes + ")", board.pass(minutes), 2);
            CHECK.equal("the minutes then", board.minutes(0), 5 + minutes);
        }
    }

    private static void passAnswers() {
        CHECK.equal("of an empty board", new Switchboard().pass(1), 0);
        CHECK.equal("without calls", Boards.ofTwo().pass(60), 0);
        CHECK.equal("two", Boards.rich().pass(1), 2);
        CHECK.equal("five", Boards.full().pass(1), 5);
    }

    private static void passOutside() {
        int[] outside = {Integer.MIN_VALUE, -60, -1, 0, 61, 62, Integer.MAX_VALUE};
        for (int minutes : outside) {
            Edge.refused("pass(" + minutes + ")", Edge.ARGUMENT, Boards::rich, board -> board.pass(minutes));
        }
        Edge.refused("without calls", Edge.ARGUMENT, Switchboard::new, board -> board.pass(0));
    }

    // The tariffs of the terms

    /** A call of a caller with a tariff over a trunk, or within a switch if the length is 0. */
    private static Switchboard callOf(int tariff, int length) {
        Switchboard board = Boards.withSwitches(2);
        board.addSubscriber(0, tariff);
        board.addSubscriber(length == 0 ? 0 : 1, (tariff + 1) % 3);
        if (length > 0) {
            board.addTrunk(0, 1, length);
        }
        board.call(0, 1);
        return board;
    }

    private static void checkCharge(int tariff, int length, int minutes, int want) {
        Switchboard board = callOf(tariff, length);
        for (int left = minutes; left > 0; left -= 60) {
            board.pass(Math.min(left, 60));
        }
        String what = "tariff " + tariff + ", length " + length + ", minutes " + minutes;
        CHECK.equal("chargeNow, " + what, board.chargeNow(1), want);
        CHECK.equal("hangUp, " + what, board.hangUp(1), want);
        CHECK.equal("bill, " + what, board.bill(0), want);
    }

    private static void callersTariff() {
        for (int tariff = 0; tariff < 3; tariff++) {
            Switchboard board = Boards.withSwitches(1);
            board.addSubscriber(0, tariff);
            board.addSubscriber(0, (tariff + 1) % 3);
            board.call(0, 1);
            board.pass(10);
            int there = board.chargeNow(0);
            board.hangUp(0);
            board.call(1, 0);
            board.pass(10);
            int[] dues = {25, 10, 5};
            CHECK.equal("the caller has tariff " + tariff, there, dues[tariff]);
            CHECK.equal("the callee has tariff " + tariff, board.chargeNow(0), dues[(tariff + 1) % 3]);
        }
    }

    private static void tariffZero() {
        checkCharge(0, 0, 0, 25);
        checkCharge(0, 1, 1, 25);
        checkCharge(0, 20, 600, 25);
    }

    private static void tariffOne() {
        checkCharge(1, 20, 0, 0);
        checkCharge(1, 0, 1, 1);
        checkCharge(1, 1, 1, 2);
        checkCharge(1, 0, 60, 60);
        checkCharge(1, 20, 1, 21);
        checkCharge(1, 20, 600, 12600);
    }

    private static void tariffTwo() {
        checkCharge(2, 20, 0, 0);
        checkCharge(2, 0, 1, 1);
        checkCharge(2, 0, 2, 1);
        checkCharge(2, 0, 3, 2);
        checkCharge(2, 1, 1, 1);
        checkCharge(2, 2, 1, 2);
        checkCharge(2, 2, 3, 5);
        checkCharge(2, 20, 60, 630);
        checkCharge(2, 20, 61, 641);
    }

    private static void presentRoute() {
        Switchboard board = Boards.ofTwo();
        board.call(0, 1);
        board.pass(10);
        CHECK.equal("of the first route", board.chargeNow(0), 40);
        board.cut(0);
        CHECK.equal("of the next one, for all minutes", board.chargeNow(0), 60);
        board.mend(0);
        CHECK.equal("not of a better one", board.chargeNow(1), 60);
        board.cut(1);
        CHECK.equal("of the better one after a cut", board.hangUp(0), 40);
    }

    // Promises 21 to 31

    private static void countSubscribers() {
        CHECK.equal("none", Boards.withSwitches(8).subscribers(), 0);
        CHECK.equal("some", Boards.rich().subscribers(), 7);
        CHECK.equal("all", Boards.full().subscribers(), 10);
    }

    private static void homes() {
        Switchboard board = Boards.withSwitches(8);
        for (int number = 0; number < 8; number++) {
            board.addSubscriber(7 - number, 0);
            CHECK.equal("home(" + number + ")", board.home(number), 7 - number);
        }
    }

    private static void tariffs() {
        Switchboard board = Boards.full();
        for (int number = 0; number < 10; number++) {
            CHECK.equal("tariff(" + number + ")", board.tariff(number), number % 3);
        }
    }

    private static void billWithoutCall() {
        Switchboard board = Boards.full();
        board.pass(60);
        for (int number = 0; number < 10; number++) {
            CHECK.equal("bill(" + number + ") of a first call", board.bill(number), 0);
        }
        board.hangUp(1);
        board.call(1, 8);
        board.pass(60);
        CHECK.equal("bill(1) of a second call", board.bill(1), 180);
        board.hangUp(8);
        CHECK.equal("bill(1) after it", board.bill(1), 360);
        CHECK.equal("bill(8), always called", board.bill(8), 0);
    }

    private static void talking() {
        Switchboard board = Boards.rich();
        boolean[] due = {true, false, true, true, true, false, false};
        for (int number = 0; number < 7; number++) {
            CHECK.equal("isTalking(" + number + ")", board.isTalking(number) ? 1 : 0, due[number] ? 1 : 0);
        }
        for (int number = 0; number < 10; number++) {
            CHECK.yes("all ten: " + number, Boards.full().isTalking(number));
            CHECK.no("none of ten: " + number, tenAtOneSwitch().isTalking(number));
        }
    }

    private static void talkingWhile() {
        Switchboard board = Boards.ofTwo();
        CHECK.no("before the call", board.isTalking(5));
        board.call(4, 5);
        CHECK.yes("while it goes on", board.isTalking(5));
        board.cut(0);
        CHECK.yes("on another route", board.isTalking(5));
        board.hangUp(4);
        CHECK.no("after it", board.isTalking(5));
        board.undo();
        CHECK.yes("hangUp undone", board.isTalking(5));
    }

    private static void partners() {
        Switchboard board = Boards.full();
        for (int number = 0; number < 10; number++) {
            CHECK.equal("partner(" + number + ")", board.partner(number), 9 - number);
        }
    }

    private static void minutesOfCalls() {
        Switchboard board = Boards.full();
        for (int number = 0; number < 10; number++) {
            CHECK.equal("minutes(" + number + ") at first", board.minutes(number), 0);
        }
        CHECK.equal("of the longest", longCall(0).minutes(1), 27000);
    }

    private static void routeSizes() {
        Switchboard same = tenAtOneSwitch();
        same.call(0, 9);
        CHECK.equal("no trunk", same.routeSize(0), 0);
        CHECK.equal("no trunk for the callee", same.routeSize(9), 0);
        CHECK.equal("seven trunks", longCall(0).routeSize(0), 7);
        CHECK.equal("seven for the callee", longCall(0).routeSize(1), 7);
    }

    private static void seenFromCaller() {
        Switchboard board = Boards.withSwitches(8);
        for (int number = 0; number < 7; number++) {
            board.addTrunk(number, number + 1, 20);
        }
        board.addSubscriber(0, 0);
        board.addSubscriber(7, 0);
        board.call(1, 0);
        for (int index = 0; index < 7; index++) {
            CHECK.equal("index " + index + " of the caller", board.routeTrunk(1, index), 6 - index);
            CHECK.equal("index " + index + " of the callee", board.routeTrunk(0, index), 6 - index);
        }
    }

    private static void noRouteTrunk() {
        notTalking("routeTrunk", Edge.ELEMENT, (board, one) -> {
            if (!board.isTalking(one) || board.routeSize(one) > 0) {
                board.routeTrunk(one, 0);
            }
        });
        int[] indices = {Integer.MIN_VALUE, -1, 1, 6, 7, Integer.MAX_VALUE};
        for (int index : indices) {
            Edge.refused("index " + index, Edge.ELEMENT, Boards::rich, board -> board.routeTrunk(2, index));
            Edge.refused("index " + index, Edge.ELEMENT, Boards::rich, board -> board.routeTrunk(3, index));
        }
        Edge.refused("index 0 of the empty route", Edge.ELEMENT, Boards::rich, board -> board.routeTrunk(0, 0));
        Switchboard seven = longCall(0);
        CHECK.equal("index 6 of seven", seven.routeTrunk(0, 6), 6);
        CHECK.refused("index 7 of seven", Edge.ELEMENT, () -> seven.routeTrunk(0, 7));
        CHECK.equal("index 0 of one", Boards.rich().routeTrunk(2, 0), 1);
    }

    private static void chargeIsHangUp() {
        for (int number = 0; number < 10; number++) {
            Switchboard board = Boards.full();
            board.pass(7);
            int charge = board.chargeNow(number);
            CHECK.equal("nothing is billed", board.totalBills() + board.totalCharges(), 0);
            CHECK.equal("nor ended", board.calls(), 5);
            CHECK.equal("chargeNow(" + number + ")", charge, board.hangUp(number));
        }
    }

    private static void countCalls() {
        Switchboard board = tenAtOneSwitch();
        for (int caller = 0; caller < 5; caller++) {
            CHECK.equal("before the next", board.calls(), caller);
            board.call(caller, 9 - caller);
        }
        for (int left = 4; left >= 0; left--) {
            board.hangUp(left);
            CHECK.equal("after hangUp", board.calls(), left);
        }
    }
}
