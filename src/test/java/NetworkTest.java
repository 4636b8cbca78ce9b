import java.util.NoSuchElementException;

/** Promises 1 to 3, 5, 6 and 10 to 16: the network. */
public final class NetworkTest {
    private static final Check CHECK = new Check("NetworkTest");

    public static void main(String[] args) {
        newObject();
        addSwitch();
        addTrunk();
        orderOfRefusals();
        cutAndMend();
        cutReroutes();
        cutEndsCall();
        properties();
        CHECK.end();
    }

    // Promise 1
    private static void newObject() {
        Switchboard board = new Switchboard();
        CHECK.equal("switches of a new object", board.switches(), 0);
        CHECK.equal("trunks of a new object", board.trunks(), 0);
        CHECK.equal("subscribers of a new object", board.subscribers(), 0);
        CHECK.equal("calls of a new object", board.calls(), 0);
        CHECK.equal("blocked calls of a new object", board.blockedCalls(), 0);
        CHECK.equal("bills of a new object", board.totalBills(), 0);
        CHECK.equal("charges of a new object", board.totalCharges(), 0);
        CHECK.yes("isConsistent of a new object", board.isConsistent());
        CHECK.equal("writeCalls of a new object", board.writeCalls(), 0);
        CHECK.refused("undo of a new object", IllegalStateException.class, board::undo);
        CHECK.refused("restore of a new object", IllegalStateException.class, board::restore);
        CHECK.refused("run of a new object", IllegalArgumentException.class, board::run);
    }

    // Promises 2 and 10
    private static void addSwitch() {
        Switchboard board = new Switchboard();
        for (int number = 0; number < 8; number++) {
            CHECK.equal("switches before addSwitch", board.switches(), number);
            CHECK.equal("addSwitch", board.addSwitch(), number);
        }
        CHECK.refused("the ninth addSwitch", IllegalStateException.class, board::addSwitch);
        CHECK.equal("switches when full", board.switches(), 8);
        CHECK.equal("undo after the ninth addSwitch", board.undo(), 7);
        CHECK.equal("switches after undo", board.switches(), 7);
        CHECK.equal("addSwitch after undo", board.addSwitch(), 7);
    }

    // Promises 3 and 11
    private static void addTrunk() {
        Switchboard board = Boards.withSwitches(3);
        CHECK.equal("addTrunk(0, 1, 1)", board.addTrunk(0, 1, 1), 0);
        CHECK.equal("addTrunk(2, 0, 20)", board.addTrunk(2, 0, 20), 1);
        CHECK.equal("a second trunk between both", board.addTrunk(0, 1, 1), 2);
        CHECK.refused("length 0", IllegalArgumentException.class, () -> board.addTrunk(0, 1, 0));
        CHECK.refused("length 21", IllegalArgumentException.class, () -> board.addTrunk(0, 1, 21));
        CHECK.refused("the same switch", IllegalArgumentException.class, () -> board.addTrunk(2, 2, 5));
        CHECK.refused("switch 3", IndexOutOfBoundsException.class, () -> board.addTrunk(0, 3, 5));
        CHECK.refused("switch 3 first", IndexOutOfBoundsException.class, () -> board.addTrunk(3, 0, 5));
        for (int wild : Boards.WILD) {
            CHECK.refused("one " + wild, IndexOutOfBoundsException.class, () -> board.addTrunk(wild, 1, 5));
            CHECK.refused("other " + wild, IndexOutOfBoundsException.class, () -> board.addTrunk(0, wild, 5));
            CHECK.refused("length " + wild, IllegalArgumentException.class, () -> board.addTrunk(0, 1, wild));
        }
        CHECK.equal("trunks after refusals", board.trunks(), 3);
        for (int trunk = 3; trunk < 16; trunk++) {
            CHECK.equal("addTrunk", board.addTrunk(1, 2, trunk), trunk);
        }
        CHECK.refused("the 17th trunk", IllegalStateException.class, () -> board.addTrunk(1, 2, 5));
        CHECK.equal("trunks when full", board.trunks(), 16);
        CHECK.equal("the length of the last trunk", board.trunkLength(15), 15);
    }

    private static void orderOfRefusals() {
        Switchboard board = Boards.withSwitches(2);
        CHECK.refused("index before argument", IndexOutOfBoundsException.class, () -> board.addTrunk(9, 9, 0));
        for (int trunk = 0; trunk < 16; trunk++) {
            board.addTrunk(0, 1, 1);
        }
        CHECK.refused("index before state", IndexOutOfBoundsException.class, () -> board.addTrunk(0, 2, 1));
        CHECK.refused("argument before state", IllegalArgumentException.class, () -> board.addTrunk(0, 1, 21));
        CHECK.refused("same one before state", IllegalArgumentException.class, () -> board.addTrunk(1, 1, 1));
    }

    // Promises 5, 6 and 14
    private static void cutAndMend() {
        Switchboard board = Boards.ofTwo();
        CHECK.no("isCut at first", board.isCut(0));
        CHECK.no("cut of a free trunk", board.cut(0));
        CHECK.yes("isCut after cut", board.isCut(0));
        CHECK.no("isCut of another trunk", board.isCut(1));
        CHECK.no("cut of another free trunk", board.cut(2));
        CHECK.refused("cut twice", IllegalStateException.class, () -> board.cut(0));
        CHECK.refused("mend what is whole", IllegalStateException.class, () -> board.mend(1));
        CHECK.equal("mend with another cut", board.mend(0), 1);
        CHECK.no("isCut after mend", board.isCut(0));
        CHECK.refused("mend twice", IllegalStateException.class, () -> board.mend(0));
        CHECK.equal("mend of the last", board.mend(2), 0);
        CHECK.no("cut after mend", board.cut(2));
        CHECK.equal("trunks with a cut one", board.trunks(), 3);
        CHECK.refused("cut(3)", IndexOutOfBoundsException.class, () -> board.cut(3));
        CHECK.refused("mend(3)", IndexOutOfBoundsException.class, () -> board.mend(3));
        CHECK.refused("isCut(3)", IndexOutOfBoundsException.class, () -> board.isCut(3));
        for (int wild : Boards.WILD) {
            CHECK.refused("cut " + wild, IndexOutOfBoundsException.class, () -> board.cut(wild));
            CHECK.refused("mend " + wild, IndexOutOfBoundsException.class, () -> board.mend(wild));
            CHECK.refused("isCut " + wild, IndexOutOfBoundsException.class, () -> board.isCut(wild));
        }
    }

    // Promises 5 and 6
    private static void cutReroutes() {
        Switchboard board = Boards.withSwitches(4);
        board.addTrunk(0, 1, 2); // 0
        board.addTrunk(1, 2, 2); // 1
        board.addTrunk(2, 3, 2); // 2
        board.addTrunk(1, 3, 9); // 3
        board.addTrunk(1, 2, 4); // 4
        board.addTrunk(0, 3, 20); // 5
        board.addSubscriber(0, 1);
        board.addSubscriber(3, 1);
        CHECK.equal("call", board.call(0, 1), 6);
        CHECK.equal("the route at first", Boards.route(board, 0), "0 1 2");
        board.pass(10);
        CHECK.no("cut of the middle", board.cut(1));
        CHECK.equal("the route keeps its own trunks", Boards.route(board, 1), "0 4 2");
        CHECK.equal("the charge follows the present route", board.chargeNow(0), 90);
        CHECK.equal("the minutes stay", board.minutes(0), 10);
        CHECK.refused("the cut trunk has no user", NoSuchElementException.class, () -> board.userOf(1));
        CHECK.equal("the new trunk has a user", board.userOf(4), 0);
        CHECK.equal("mend", board.mend(1), 0);
        CHECK.equal("mend reroutes no call", Boards.route(board, 0), "0 4 2");
        CHECK.no("cut of the last", board.cut(2));
        CHECK.equal("the route leaves trunks free", Boards.route(board, 0), "0 3");
        CHECK.refused("a trunk that was left", NoSuchElementException.class, () -> board.userOf(4));
        CHECK.no("cut of the first", board.cut(0));
        CHECK.equal("the direct route", Boards.route(board, 0), "5");
        CHECK.yes("cut of the only one", board.cut(5));
        CHECK.equal("calls after it", board.calls(), 0);
        CHECK.equal("bill with the route that was lost", board.bill(0), 210);
        CHECK.equal("bill of the callee", board.bill(1), 0);
        CHECK.equal("a lost call counts", board.totalCharges(), 210);
        CHECK.equal("a lost call is no blocked one", board.blockedCalls(), 0);
    }

    private static void cutEndsCall() {
        Switchboard board = Boards.ofTwo();
        board.call(0, 1);
        board.call(2, 3);
        board.call(4, 5);
        board.pass(2);
        CHECK.yes("cut with all others used", board.cut(1));
        CHECK.equal("only its call ends", Boards.calls(board), "0>1:2 4>5:2");
        CHECK.equal("the charge of the ended call", board.bill(2), 12);
        CHECK.no("isTalking afterwards", board.isTalking(3));
        CHECK.equal("mend of the cut one", board.mend(1), 0);
        CHECK.no("cut with a free one", board.cut(0));
        CHECK.equal("it takes the mended trunk", Boards.route(board, 0), "1");
    }

    // Promises 12, 13, 15 and 16
    private static void properties() {
        Switchboard board = Boards.ofTwo();
        board.addSwitch();
        CHECK.equal("trunkLength(0)", board.trunkLength(0), 3);
        CHECK.equal("trunkLength(1)", board.trunkLength(1), 5);
        CHECK.equal("otherEnd(0, 0)", board.otherEnd(0, 0), 1);
        CHECK.equal("otherEnd(0, 1)", board.otherEnd(0, 1), 0);
        CHECK.equal("otherEnd(1, 1)", board.otherEnd(1, 1), 0);
        CHECK.refused("a switch elsewhere", IllegalArgumentException.class, () -> board.otherEnd(0, 2));
        CHECK.refused("no such switch", IllegalArgumentException.class, () -> board.otherEnd(0, 3));
        CHECK.refused("no such trunk", IndexOutOfBoundsException.class, () -> board.otherEnd(3, 0));
        CHECK.refused("neither", IndexOutOfBoundsException.class, () -> board.otherEnd(3, 9));
        CHECK.refused("trunkLength(3)", IndexOutOfBoundsException.class, () -> board.trunkLength(3));
        CHECK.refused("userOf(3)", IndexOutOfBoundsException.class, () -> board.userOf(3));
        CHECK.refused("minutesOn(3)", IndexOutOfBoundsException.class, () -> board.minutesOn(3));
        for (int wild : Boards.WILD) {
            CHECK.refused("trunkLength", IndexOutOfBoundsException.class, () -> board.trunkLength(wild));
            CHECK.refused("otherEnd", IndexOutOfBoundsException.class, () -> board.otherEnd(wild, 0));
            CHECK.refused("otherEnd end", IllegalArgumentException.class, () -> board.otherEnd(0, wild));
            CHECK.refused("userOf", IndexOutOfBoundsException.class, () -> board.userOf(wild));
            CHECK.refused("minutesOn", IndexOutOfBoundsException.class, () -> board.minutesOn(wild));
        }
        CHECK.refused("userOf a free trunk", NoSuchElementException.class, () -> board.userOf(0));
        board.call(3, 2);
        board.call(0, 1);
        CHECK.equal("userOf is the caller", board.userOf(0), 3);
        CHECK.equal("userOf the second", board.userOf(1), 0);
        CHECK.equal("minutesOn at first", board.minutesOn(0), 0);
        board.pass(60);
        board.hangUp(0);
        board.pass(7);
        board.cut(0);
        board.pass(1);
        CHECK.equal("minutesOn the first", board.minutesOn(0), 67);
        CHECK.equal("minutesOn the second", board.minutesOn(1), 61);
        CHECK.equal("minutesOn the third", board.minutesOn(2), 0);
    }
}
