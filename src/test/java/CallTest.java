import java.util.NoSuchElementException;

/** Promises 4, 7 to 9 and 21 to 31: subscribers and calls. */
public final class CallTest {
    private static final Check CHECK = new Check("CallTest");

    public static void main(String[] args) {
        addSubscriber();
        startCall();
        refusedCalls();
        bestRoute();
        hangUp();
        pass();
        tariffs();
        askSubscribers();
        askCalls();
        CHECK.end();
    }

    // Promises 4, 21, 22 and 23
    private static void addSubscriber() {
        Switchboard board = Boards.withSwitches(2);
        CHECK.refused("switch 2", IndexOutOfBoundsException.class, () -> board.addSubscriber(2, 0));
        CHECK.refused("tariff -1", IllegalArgumentException.class, () -> board.addSubscriber(0, -1));
        CHECK.refused("tariff 3", IllegalArgumentException.class, () -> board.addSubscriber(0, 3));
        CHECK.refused("index before argument", IndexOutOfBoundsException.class, () -> board.addSubscriber(2, 3));
        for (int wild : Boards.WILD) {
            CHECK.refused("home " + wild, IndexOutOfBoundsException.class, () -> board.addSubscriber(wild, 0));
            CHECK.refused("tariff " + wild, IllegalArgumentException.class, () -> board.addSubscriber(0, wild));
        }
        for (int number = 0; number < 10; number++) {
            CHECK.equal("subscribers before", board.subscribers(), number);
            CHECK.equal("addSubscriber", board.addSubscriber(number % 2, number % 3), number);
            CHECK.equal("home", board.home(number), number % 2);
            CHECK.equal("tariff", board.tariff(number), number % 3);
            CHECK.equal("bill", board.bill(number), 0);
            CHECK.no("isTalking", board.isTalking(number));
        }
        CHECK.refused("the eleventh", IllegalStateException.class, () -> board.addSubscriber(0, 0));
        CHECK.refused("index before state", IndexOutOfBoundsException.class, () -> board.addSubscriber(2, 0));
        CHECK.refused("argument before state", IllegalArgumentException.class, () -> board.addSubscriber(0, 3));
        CHECK.equal("subscribers when full", board.subscribers(), 10);
    }

    // Promises 7 and 31
    private static void startCall() {
        Switchboard board = Boards.ofTwo();
        CHECK.equal("the first call", board.call(0, 1), 3);
        CHECK.equal("calls", board.calls(), 1);
        CHECK.equal("the second call", board.call(5, 2), 5);
        CHECK.equal("its trunk", Boards.route(board, 5), "1");
        CHECK.equal("the third call", board.call(4, 3), 5);
        CHECK.equal("the trunk of the third", Boards.route(board, 4), "2");
        CHECK.equal("calls then", board.calls(), 3);
        board.hangUp(2);
        CHECK.equal("a trunk is free again", board.call(5, 2), 5);
        CHECK.equal("it is the same", Boards.route(board, 5), "1");
        Switchboard same = Boards.withSwitches(1);
        for (int number = 0; number < 10; number++) {
            same.addSubscriber(0, 0);
        }
        for (int number = 0; number < 5; number++) {
            CHECK.equal("a call within a switch", same.call(9 - number, number), 0);
        }
        CHECK.equal("all talk", same.calls(), 5);
        CHECK.equal("an empty route", same.routeSize(3), 0);
        CHECK.refused("all are busy", IllegalStateException.class, () -> same.call(0, 8));
    }

    // Promise 7
    private static void refusedCalls() {
        Switchboard board = Boards.ofTwo();
        CHECK.refused("caller 6", IndexOutOfBoundsException.class, () -> board.call(6, 0));
        CHECK.refused("callee 6", IndexOutOfBoundsException.class, () -> board.call(0, 6));
        CHECK.refused("the same one", IllegalArgumentException.class, () -> board.call(2, 2));
        CHECK.refused("index before argument", IndexOutOfBoundsException.class, () -> board.call(6, 6));
        for (int wild : Boards.WILD) {
            CHECK.refused("caller " + wild, IndexOutOfBoundsException.class, () -> board.call(wild, 0));
            CHECK.refused("callee " + wild, IndexOutOfBoundsException.class, () -> board.call(0, wild));
        }
        board.call(0, 1);
        CHECK.refused("same one before busy", IllegalArgumentException.class, () -> board.call(0, 0));
        CHECK.refused("index before busy", IndexOutOfBoundsException.class, () -> board.call(0, 6));
        CHECK.equal("none of these is recorded", board.blockedCalls(), 0);
        CHECK.refused("the caller calls", IllegalStateException.class, () -> board.call(0, 3));
        CHECK.refused("the callee calls", IllegalStateException.class, () -> board.call(1, 2));
        CHECK.refused("the caller is called", IllegalStateException.class, () -> board.call(3, 0));
        CHECK.refused("the callee is called", IllegalStateException.class, () -> board.call(2, 1));
        board.cut(1);
        board.cut(2);
        CHECK.refused("no route", UnsupportedOperationException.class, () -> board.call(2, 3));
        CHECK.refused("busy before no route", IllegalStateException.class, () -> board.call(0, 3));
        CHECK.equal("within the switch", board.call(2, 4), 0);
        CHECK.equal("these are recorded", board.blockedCalls(), 6);
        CHECK.equal("and change nothing else", Boards.calls(board), "0>1:0 2>4:0");
    }

    // Routes in the terms, and promise 7
    private static void bestRoute() {
        Switchboard board = Boards.withSwitches(5);
        board.addTrunk(0, 4, 10); // 0: the longest
        board.addTrunk(1, 4, 3); // 1
        board.addTrunk(1, 2, 1); // 2
        board.addTrunk(2, 4, 2); // 3
        board.addTrunk(0, 1, 3); // 4
        board.addTrunk(0, 2, 4); // 5
        board.addTrunk(0, 1, 3); // 6
        for (int number = 0; number < 4; number++) {
            board.addSubscriber(0, 0);
            board.addSubscriber(4, 0);
        }
        CHECK.equal("the smallest length", board.call(0, 1), 6);
        CHECK.equal("fewest trunks, then the smallest first trunk", Boards.route(board, 0), "4 1");
        CHECK.equal("from the other side", board.call(3, 2), 6);
        CHECK.equal("over what is left", Boards.route(board, 3), "3 5");
        CHECK.equal("the last", board.call(4, 5), 10);
        CHECK.equal("its route", Boards.route(board, 4), "0");
        CHECK.refused("nothing left", UnsupportedOperationException.class, () -> board.call(6, 7));
        board.hangUp(0);
        CHECK.equal("seen from the other end", board.call(1, 0), 6);
        CHECK.equal("is a route of its own", Boards.route(board, 1), "1 4");
        shortBeforeFew();
        manySecondTrunks();
        longRoute();
    }

    private static void shortBeforeFew() {
        Switchboard board = Boards.withSwitches(8);
        board.addTrunk(0, 7, 8); // 0
        for (int number = 0; number < 7; number++) {
            board.addTrunk(number, number + 1, 1); // 1 to 7
        }
        board.addSubscriber(0, 0);
        board.addSubscriber(7, 0);
        CHECK.equal("seven short trunks", board.call(0, 1), 7);
        CHECK.equal("come before a long one", Boards.route(board, 0), "1 2 3 4 5 6 7");
        CHECK.no("cut one", board.cut(4));
        CHECK.equal("then the long one", Boards.route(board, 0), "0");
    }

    private static void manySecondTrunks() {
        Switchboard board = Boards.withSwitches(4);
        board.addTrunk(0, 1, 2); // 0
        board.addTrunk(2, 3, 2); // 1
        board.addTrunk(0, 2, 2); // 2
        board.addTrunk(1, 3, 2); // 3
        board.addTrunk(3, 1, 2); // 4
        board.addSubscriber(0, 2);
        board.addSubscriber(3, 2);
        board.call(0, 1);
        CHECK.equal("the first trunk decides", Boards.route(board, 0), "0 3");
        board.cut(3);
        CHECK.equal("then the second", Boards.route(board, 0), "0 4");
        board.hangUp(1);
        board.call(1, 0);
        CHECK.equal("seen from the caller", Boards.route(board, 0), "1 2");
        CHECK.equal("as the callee is asked", Boards.route(board, 1), "1 2");
    }

    private static void longRoute() {
        Switchboard board = Boards.withSwitches(8);
        for (int number = 0; number < 7; number++) {
            board.addTrunk(number + 1, number, 20);
        }
        board.addSubscriber(7, 1);
        board.addSubscriber(0, 1);
        CHECK.equal("the longest route", board.call(0, 1), 140);
        CHECK.equal("it is seen from the caller", Boards.route(board, 0), "6 5 4 3 2 1 0");
        board.pass(60);
        CHECK.equal("the dearest hour", board.hangUp(1), 8460);
    }

    // Promises 8 and 24
    private static void hangUp() {
        Switchboard board = Boards.ofTwo();
        board.call(0, 1);
        board.call(2, 3);
        board.pass(4);
        CHECK.equal("bill while talking", board.bill(0), 0);
        CHECK.equal("the callee hangs up", board.hangUp(1), 16);
        CHECK.equal("the caller pays", board.bill(0), 16);
        CHECK.equal("the callee does not", board.bill(1), 0);
        CHECK.no("the caller is free", board.isTalking(0));
        CHECK.no("the callee is free", board.isTalking(1));
        CHECK.yes("the others talk", board.isTalking(3));
        CHECK.equal("the caller hangs up", board.hangUp(2), 24);
        CHECK.equal("bill of the second caller", board.bill(2), 24);
        CHECK.refused("who is not talking", IllegalStateException.class, () -> board.hangUp(2));
        CHECK.refused("nor the callee", IllegalStateException.class, () -> board.hangUp(3));
        CHECK.refused("hangUp(6)", IndexOutOfBoundsException.class, () -> board.hangUp(6));
        for (int wild : Boards.WILD) {
            CHECK.refused("hangUp " + wild, IndexOutOfBoundsException.class, () -> board.hangUp(wild));
        }
        board.call(0, 1);
        board.pass(1);
        CHECK.equal("the minutes start anew", board.hangUp(0), 4);
        CHECK.equal("bills add up", board.bill(0), 20);
    }

    // Promises 9 and 27
    private static void pass() {
        Switchboard board = Boards.ofTwo();
        CHECK.equal("pass without calls", board.pass(1), 0);
        board.call(0, 1);
        CHECK.equal("minutes at first", board.minutes(0), 0);
        CHECK.equal("pass(1)", board.pass(1), 1);
        board.call(2, 3);
        CHECK.equal("pass(60)", board.pass(60), 2);
        CHECK.equal("minutes of the first", board.minutes(1), 61);
        CHECK.equal("minutes of the second", board.minutes(2), 60);
        CHECK.refused("pass(0)", IllegalArgumentException.class, () -> board.pass(0));
        CHECK.refused("pass(61)", IllegalArgumentException.class, () -> board.pass(61));
        for (int wild : Boards.WILD) {
            CHECK.refused("pass " + wild, IllegalArgumentException.class, () -> board.pass(wild));
        }
        CHECK.equal("a refused pass changes nothing", board.minutes(0), 61);
    }

    // Tariffs in the terms, and promise 30
    private static void tariffs() {
        Switchboard board = Boards.withSwitches(2);
        board.addTrunk(0, 1, 6);
        board.addTrunk(0, 1, 7);
        board.addTrunk(0, 1, 8);
        for (int tariff = 0; tariff < 3; tariff++) {
            board.addSubscriber(0, tariff);
            board.addSubscriber(1, 2 - tariff);
        }
        board.call(0, 1);
        board.call(2, 3);
        board.call(4, 5);
        CHECK.equal("the flat charge at once", board.chargeNow(0), 25);
        CHECK.equal("tariff 1 at once", board.chargeNow(2), 0);
        CHECK.equal("tariff 2 at once", board.chargeNow(4), 0);
        board.pass(3);
        CHECK.equal("the flat charge later", board.chargeNow(1), 25);
        CHECK.equal("tariff 1", board.chargeNow(3), 24);
        CHECK.equal("tariff 2 rounds up", board.chargeNow(5), 14);
        board.pass(1);
        CHECK.equal("tariff 2 of an even product", board.chargeNow(4), 18);
        CHECK.equal("chargeNow bills nothing", board.totalBills(), 0);
        CHECK.equal("hangUp flat", board.hangUp(0), 25);
        CHECK.equal("hangUp tariff 1", board.hangUp(2), 32);
        CHECK.equal("hangUp tariff 2", board.hangUp(4), 18);
        board.call(1, 3);
        board.pass(3);
        CHECK.equal("no trunk: the half of 3", board.chargeNow(1), 2);
        CHECK.equal("no trunk: 2 minutes more", board.pass(2), 1);
        CHECK.equal("no trunk: the half of 5", board.hangUp(3), 3);
    }

    // Promises 22 to 31 for numbers that do not exist
    private static void askSubscribers() {
        Switchboard board = Boards.ofTwo();
        board.call(0, 1);
        int[] numbers = {6, 7, -1, Integer.MIN_VALUE, Integer.MAX_VALUE};
        for (int number : numbers) {
            CHECK.refused("home", IndexOutOfBoundsException.class, () -> board.home(number));
            CHECK.refused("tariff", IndexOutOfBoundsException.class, () -> board.tariff(number));
            CHECK.refused("bill", IndexOutOfBoundsException.class, () -> board.bill(number));
            CHECK.refused("isTalking", IndexOutOfBoundsException.class, () -> board.isTalking(number));
            CHECK.refused("partner", IndexOutOfBoundsException.class, () -> board.partner(number));
            CHECK.refused("minutes", IndexOutOfBoundsException.class, () -> board.minutes(number));
            CHECK.refused("routeSize", IndexOutOfBoundsException.class, () -> board.routeSize(number));
            CHECK.refused("routeTrunk", IndexOutOfBoundsException.class, () -> board.routeTrunk(number, 9));
            CHECK.refused("chargeNow", IndexOutOfBoundsException.class, () -> board.chargeNow(number));
        }
        CHECK.refused("partner of a silent one", NoSuchElementException.class, () -> board.partner(2));
        CHECK.refused("minutes of a silent one", NoSuchElementException.class, () -> board.minutes(2));
        CHECK.refused("routeSize of a silent one", NoSuchElementException.class, () -> board.routeSize(2));
        CHECK.refused("routeTrunk of a silent one", NoSuchElementException.class, () -> board.routeTrunk(2, 0));
        CHECK.refused("chargeNow of a silent one", NoSuchElementException.class, () -> board.chargeNow(2));
    }

    // Promises 25, 26, 28, 29 and 31
    private static void askCalls() {
        Switchboard board = Boards.withSwitches(3);
        board.addTrunk(0, 1, 1);
        board.addTrunk(1, 2, 1);
        board.addSubscriber(2, 1);
        board.addSubscriber(0, 1);
        board.addSubscriber(0, 1);
        board.call(0, 2);
        CHECK.yes("the caller talks", board.isTalking(0));
        CHECK.yes("the callee talks", board.isTalking(2));
        CHECK.no("the third does not", board.isTalking(1));
        CHECK.equal("partner of the caller", board.partner(0), 2);
        CHECK.equal("partner of the callee", board.partner(2), 0);
        CHECK.equal("routeSize", board.routeSize(2), 2);
        CHECK.equal("routeTrunk(0, 0)", board.routeTrunk(0, 0), 1);
        CHECK.equal("routeTrunk(2, 0)", board.routeTrunk(2, 0), 1);
        CHECK.equal("routeTrunk(2, 1)", board.routeTrunk(2, 1), 0);
        CHECK.refused("routeTrunk(0, 2)", NoSuchElementException.class, () -> board.routeTrunk(0, 2));
        for (int wild : Boards.WILD) {
            CHECK.refused("routeTrunk " + wild, NoSuchElementException.class, () -> board.routeTrunk(0, wild));
        }
        CHECK.equal("calls", board.calls(), 1);
        board.hangUp(2);
        CHECK.equal("calls afterwards", board.calls(), 0);
    }
}
