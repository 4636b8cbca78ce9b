import java.util.function.Consumer;
import java.util.function.Supplier;

/** Boundary sentences about the network: promises 1 to 3, 5, 6 and 10 to 16. */
final class EdgeNetwork {
    private static final Check CHECK = Edge.CHECK;
    private static final int[] NO_RICH_SWITCH = {Integer.MIN_VALUE, -1, 4, 8, Integer.MAX_VALUE};
    private static final int[] NO_RICH_TRUNK = {Integer.MIN_VALUE, -32, -1, 6, 16, 32, Integer.MAX_VALUE};

    private EdgeNetwork() {
    }

    static void tell() {
        Edge.at(1, "Creates a switchboard without switches.", EdgeNetwork::newObject);
        Edge.at(Edge.TERMS, "There are at most 8 switches, numbered from 0 in the order in which they were added.",
                EdgeNetwork::eightSwitches);
        Edge.at(2, "Throws `IllegalStateException` if there are 8 switches", EdgeNetwork::ninthSwitch);
        Edge.at(Edge.TERMS, "There are at most 16 trunks, numbered from 0 in the order in which they were added.",
                EdgeNetwork::sixteenTrunks);
        Edge.at(Edge.TERMS, "A trunk connects two different switches and has a length from 1 to 20; "
                + "there can be several trunks between two switches.", EdgeNetwork::lengthsAndTwins);
        Edge.at(Edge.TERMS, "A trunk is cut or not, initially not.", EdgeNetwork::initiallyNotCut);
        Edge.at(Edge.TERMS, "It is free if it is not cut and no call uses it.", EdgeNetwork::freeTrunks);
        Edge.at(3, "Throws `IndexOutOfBoundsException` if one of the switches does not exist",
                EdgeNetwork::trunkWithoutSwitch);
        Edge.at(3, "Throws `IllegalArgumentException` if both switches are the same one, or the length is out of range",
                EdgeNetwork::badTrunk);
        Edge.at(3, "Throws `IllegalStateException` if there are 16 trunks", EdgeNetwork::seventeenthTrunk);
        tellRepairs();
        tellProperties();
    }

    private static void tellRepairs() {
        Edge.at(5, "If a call uses it, the call gets the best route over the free trunks and those that it used "
                + "until now, without the cut trunk", EdgeNetwork::reroute);
        Edge.at(5, "if there is no such route, the call ends.", EdgeNetwork::lostRoute);
        Edge.at(5, "Returns true if a call ends by that.", EdgeNetwork::cutAnswers);
        Edge.at(5, "Throws `IndexOutOfBoundsException` if the trunk does not exist",
                () -> noTrunk("cut", Switchboard::cut));
        Edge.at(5, "Throws `IllegalStateException` if it is cut", EdgeNetwork::cutTwice);
        Edge.at(6, "No call gets another route by that.", EdgeNetwork::mendKeepsRoutes);
        Edge.at(6, "Returns the number of trunks that are cut afterwards.", EdgeNetwork::mendCounts);
        Edge.at(6, "Throws `IndexOutOfBoundsException` if the trunk does not exist",
                () -> noTrunk("mend", Switchboard::mend));
        Edge.at(6, "Throws `IllegalStateException` if it is not cut", EdgeNetwork::mendWhole);
    }

    private static void tellProperties() {
        Edge.at(10, "Returns the number of switches.", EdgeNetwork::countSwitches);
        Edge.at(11, "Returns the number of trunks, cut ones included.", EdgeNetwork::countTrunks);
        Edge.at(12, "Returns the length of a trunk.", EdgeNetwork::edgeLengths);
        Edge.at(12, "Throws `IndexOutOfBoundsException` if the trunk does not exist",
                () -> noTrunk("trunkLength", Switchboard::trunkLength));
        Edge.at(13, "Returns the switch at the other end of a trunk.", EdgeNetwork::bothEnds);
        Edge.at(13, "Throws `IndexOutOfBoundsException` if the trunk does not exist",
                () -> noTrunk("otherEnd", (board, trunk) -> board.otherEnd(trunk, 0)));
        Edge.at(13, "Throws `IllegalArgumentException` if the switch is at no end of the trunk, or does not exist",
                EdgeNetwork::noEnd);
        Edge.at(14, "Returns true if it is cut.", EdgeNetwork::askCut);
        Edge.at(14, "Throws `IndexOutOfBoundsException` if the trunk does not exist",
                () -> noTrunk("isCut", Switchboard::isCut));
        Edge.at(15, "Returns the caller of the call that uses a trunk.", EdgeNetwork::users);
        Edge.at(15, "Throws `IndexOutOfBoundsException` if the trunk does not exist",
                () -> noTrunk("userOf", Switchboard::userOf));
        Edge.at(15, "Throws `NoSuchElementException` if no call uses it", EdgeNetwork::noUser);
        Edge.at(16, "Returns the number of minutes that a trunk has carried calls.", EdgeNetwork::minutesCarried);
        Edge.at(16, "Throws `IndexOutOfBoundsException` if the trunk does not exist",
                () -> noTrunk("minutesOn", Switchboard::minutesOn));
    }

    private interface TrunkCall {
        void make(Switchboard board, int trunk);
    }

    private static void noTrunk(String name, TrunkCall call) {
        for (int trunk : NO_RICH_TRUNK) {
            Edge.refused(name + " of trunk " + trunk, Edge.INDEX, Boards::rich, board -> call.make(board, trunk));
        }
        Edge.refused(name + " of trunk 0 of none", Edge.INDEX, Switchboard::new, board -> call.make(board, 0));
        Edge.refused(name + " of trunk 16 of 16", Edge.INDEX, Boards::full, board -> call.make(board, 16));
        Edge.inside(name + " of trunk 0", Edge.INDEX, Boards::rich, board -> call.make(board, 0));
        Edge.inside(name + " of trunk 5 of 6", Edge.INDEX, Boards::rich, board -> call.make(board, 5));
        Edge.inside(name + " of trunk 15 of 16", Edge.INDEX, Boards::full, board -> call.make(board, 15));
    }

    private static Switchboard fullOfTrunks() {
        Switchboard board = Boards.rich();
        while (board.trunks() < 16) {
            board.addTrunk(0, 1, 20);
        }
        return board;
    }

    // Promise 1

    private static void newObject() {
        CHECK.equal("the state", Trace.picture(new Switchboard()),
                "0 switches, 0 trunks; 0 subscribers; 0 calls ; bills 0, charges 0, "
                + "mean ArithmeticException, share ArithmeticException, consistent true");
        Trace trace = new Trace(Switchboard::new);
        CHECK.equal("blocked calls", trace.blocked, "");
        CHECK.equal("errorPosition", trace.errorPosition, "NoSuchElementException");
        CHECK.equal("failedCommand", trace.failedCommand, "NoSuchElementException");
        CHECK.equal("the line", trace.line, " IndexOutOfBoundsException");
        CHECK.equal("the buffer", new Switchboard().type('s'), 1);
        Switchboard one = new Switchboard();
        one.addSwitch();
        CHECK.equal("another object shares nothing", new Switchboard().switches(), 0);
    }

    // Promise 2 and the terms

    private static void eightSwitches() {
        Switchboard board = new Switchboard();
        for (int number = 0; number < 8; number++) {
            CHECK.equal("addSwitch", board.addSwitch(), number);
        }
        CHECK.equal("a trunk at the eighth", board.addTrunk(7, 0, 1), 0);
        CHECK.equal("a subscriber at the eighth", board.addSubscriber(7, 0), 0);
    }

    private static void ninthSwitch() {
        Supplier<Switchboard> seven = Boards.richAnd(board -> {
            board.addSwitch();
            board.addSwitch();
            board.addSwitch();
        });
        CHECK.equal("the eighth", seven.get().addSwitch(), 7);
        Supplier<Switchboard> eight = Boards.richAnd(board -> {
            for (int number = 4; number < 8; number++) {
                board.addSwitch();
            }
        });
        Edge.refused("the ninth", Edge.STATE, eight, Switchboard::addSwitch);
        Switchboard board = eight.get();
        board.undo();
        CHECK.equal("the eighth after undo", board.addSwitch(), 7);
    }

    // Promise 3 and the terms

    private static void sixteenTrunks() {
        Switchboard board = Boards.withSwitches(2);
        for (int number = 0; number < 16; number++) {
            CHECK.equal("addTrunk", board.addTrunk(0, 1, 20 - number), number);
        }
        for (int number = 0; number < 16; number++) {
            CHECK.equal("the length of trunk " + number, board.trunkLength(number), 20 - number);
        }
    }

    private static void lengthsAndTwins() {
        Switchboard board = Boards.withSwitches(2);
        CHECK.equal("the least length", board.addTrunk(0, 1, 1), 0);
        CHECK.equal("the greatest length", board.addTrunk(0, 1, 20), 1);
        CHECK.equal("a twin", board.addTrunk(0, 1, 1), 2);
        CHECK.equal("a twin the other way", board.addTrunk(1, 0, 20), 3);
        CHECK.equal("the least kept", board.trunkLength(0), 1);
        CHECK.equal("the greatest kept", board.trunkLength(3), 20);
    }

    private static void initiallyNotCut() {
        Switchboard board = Boards.withSwitches(2);
        for (int number = 0; number < 16; number++) {
            board.addTrunk(0, 1, 5);
            CHECK.no("isCut(" + number + ")", board.isCut(number));
            board.cut(number);
        }
    }

    private static void freeTrunks() {
        Switchboard board = Boards.ofTwo();
        CHECK.equal("all three", board.disjointRoutes(0, 1), 3);
        board.call(0, 1);
        CHECK.equal("one is used", board.disjointRoutes(0, 1), 2);
        board.cut(1);
        CHECK.equal("one is used, one cut", board.disjointRoutes(0, 1), 1);
        board.cut(2);
        CHECK.equal("one is used, both others cut", board.disjointRoutes(0, 1), 0);
        board.mend(1);
        CHECK.equal("one is mended", board.disjointRoutes(0, 1), 1);
        board.hangUp(1);
        CHECK.equal("one is free again", board.disjointRoutes(0, 1), 2);
    }

    private static void trunkWithoutSwitch() {
        for (int number : NO_RICH_SWITCH) {
            Edge.refused("one " + number, Edge.INDEX, Boards::rich, board -> board.addTrunk(number, 3, 1));
            Edge.refused("other " + number, Edge.INDEX, Boards::rich, board -> board.addTrunk(3, number, 1));
        }
        Edge.refused("switch 0 of none", Edge.INDEX, Switchboard::new, board -> board.addTrunk(0, 1, 1));
        Edge.refused("switch 1 of one", Edge.INDEX, () -> Boards.withSwitches(1), board -> board.addTrunk(0, 1, 1));
        Edge.refused("switch 8 of 8", Edge.INDEX, () -> Boards.withSwitches(8), board -> board.addTrunk(8, 7, 1));
        CHECK.equal("the last switch", Boards.rich().addTrunk(3, 0, 1), 6);
        CHECK.equal("the first switch", Boards.rich().addTrunk(0, 3, 1), 6);
    }

    private static void badTrunk() {
        for (int same = 0; same < 4; same++) {
            int one = same;
            Edge.refused("both " + one, Edge.ARGUMENT, Boards::rich, board -> board.addTrunk(one, one, 5));
        }
        int[] lengths = {Integer.MIN_VALUE, -20, -1, 0, 21, 22, Integer.MAX_VALUE};
        for (int length : lengths) {
            Edge.refused("length " + length, Edge.ARGUMENT, Boards::rich, board -> board.addTrunk(1, 2, length));
        }
        CHECK.equal("length 1", Boards.rich().addTrunk(1, 2, 1), 6);
        CHECK.equal("length 20", Boards.rich().addTrunk(1, 2, 20), 6);
    }

    private static void seventeenthTrunk() {
        Switchboard fifteen = fullOfTrunks();
        fifteen.undo();
        CHECK.equal("the sixteenth", fifteen.addTrunk(2, 3, 5), 15);
        Edge.refused("the seventeenth", Edge.STATE, EdgeNetwork::fullOfTrunks, board -> board.addTrunk(2, 3, 5));
        Edge.refused("cut ones count", Edge.STATE, () -> {
            Switchboard board = fullOfTrunks();
            board.cut(15);
            return board;
        }, board -> board.addTrunk(2, 3, 5));
    }

    // Promise 5

    /** From 0 to 3: over 0, 1, 2 at first; trunk 3 is used by another call, trunk 4 is cut. */
    private static Switchboard beforeCut() {
        Switchboard board = Boards.withSwitches(4);
        board.addTrunk(0, 1, 1); // 0
        board.addTrunk(1, 2, 1); // 1
        board.addTrunk(2, 3, 1); // 2
        board.addTrunk(1, 2, 1); // 3
        board.addTrunk(1, 2, 1); // 4
        board.addTrunk(1, 2, 7); // 5
        board.addTrunk(0, 2, 9); // 6
        board.addSubscriber(1, 1);
        board.addSubscriber(2, 1);
        board.addSubscriber(0, 1);
        board.addSubscriber(3, 1);
        board.cut(1);
        board.call(0, 1); // over 3
        board.mend(1);
        board.cut(4);
        board.call(2, 3); // over 0 1 2
        board.pass(10);
        return board;
    }

    private static void reroute() {
        Switchboard board = beforeCut();
        CHECK.equal("the route at first", Boards.route(board, 2), "0 1 2");
        CHECK.no("cut(1)", board.cut(1));
        CHECK.equal("own trunks and a free one, none that is cut or another call's", Boards.route(board, 2), "0 5 2");
        CHECK.equal("the other call stays", Boards.route(board, 0), "3");
        CHECK.equal("the minutes stay", board.minutes(3), 10);
        CHECK.equal("the new trunk has carried nothing", board.minutesOn(5), 0);
        CHECK.equal("the cut trunk has", board.minutesOn(1), 10);
        CHECK.equal("no charge by that", board.totalCharges(), 0);
        CHECK.equal("both calls go on", Boards.calls(board), "0>1:10 2>3:10");
        CHECK.no("cut(5)", board.cut(5));
        CHECK.equal("a trunk of the old route is left", Boards.route(board, 2), "6 2");
        CHECK.equal("and free", board.routeLength(0, 1), 1);
        board.undo();
        CHECK.equal("undo brings the route back", Boards.route(board, 2), "0 5 2");
        board.cut(6);
        CHECK.equal("a cut of a free trunk leaves the route", Boards.route(board, 2), "0 5 2");
        board.undo();
        board.cut(0);
        CHECK.equal("the first trunk is cut", Boards.route(board, 2), "6 2");
        Switchboard better = beforeCut();
        better.mend(4);
        better.cut(0);
        better.addTrunk(0, 1, 1); // 7
        CHECK.equal("a better route is not taken", Boards.route(better, 2), "6 2");
        better.cut(6);
        CHECK.equal("but at the next cut the best one is", Boards.route(better, 2), "7 1 2");
    }

    private static void lostRoute() {
        Switchboard board = beforeCut();
        CHECK.yes("cut(2)", board.cut(2));
        CHECK.equal("only the other call goes on", Boards.calls(board), "0>1:10");
        CHECK.equal("the charge of the route until then", board.bill(2), 40);
        CHECK.equal("the callee pays nothing", board.bill(3), 0);
        CHECK.no("the caller is free", board.isTalking(2));
        CHECK.no("the callee is free", board.isTalking(3));
        CHECK.equal("its trunks are free", board.routeLength(0, 2), 2);
        CHECK.equal("one call has ended", board.meanCharge(), 40.0);
        CHECK.equal("it is not blocked", board.blockedCalls(), 0);
        CHECK.equal("mend does not bring it back", board.mend(2), 1);
        CHECK.equal("calls", board.calls(), 1);
        board.undo();
        board.undo();
        CHECK.equal("undo does", Boards.calls(board), "0>1:10 2>3:10");
        CHECK.equal("without the bill", board.bill(2), 0);
    }

    private static void cutAnswers() {
        Switchboard board = beforeCut();
        CHECK.no("a free trunk", board.cut(6));
        CHECK.no("a used one with a way round", board.cut(1));
        CHECK.yes("a used one without", board.cut(5));
        CHECK.no("then it is free", board.cut(0));
        Switchboard full = Boards.full();
        CHECK.equal("calls", full.calls(), 5);
        int ended = 0;
        for (int trunk = 0; trunk < 16; trunk++) {
            int before = full.calls();
            boolean ends = full.cut(trunk);
            CHECK.equal("cut(" + trunk + ") says whether a call ends", ends ? 1 : 0, before - full.calls());
            ended += ends ? 1 : 0;
        }
        CHECK.equal("all have ended", ended, 5);
        Switchboard same = Boards.withSwitches(2);
        same.addTrunk(0, 1, 1);
        same.addSubscriber(0, 0);
        same.addSubscriber(0, 0);
        same.call(0, 1);
        CHECK.no("a call without trunks never ends by a cut", same.cut(0));
        CHECK.equal("it goes on", same.calls(), 1);
    }

    private static void cutTwice() {
        Edge.refused("cut(3)", Edge.STATE, Boards::rich, board -> board.cut(3));
        Edge.refused("cut(4)", Edge.STATE, Boards::rich, board -> board.cut(4));
        Edge.refused("a used trunk again", Edge.STATE, Boards.richAnd(board -> board.cut(1)), board -> board.cut(1));
        CHECK.no("a trunk beside it", Boards.rich().cut(2));
    }

    // Promise 6

    private static void mendKeepsRoutes() {
        Switchboard board = beforeCut();
        board.cut(1);
        board.mend(1);
        CHECK.equal("the way round stays", Boards.route(board, 2), "0 5 2");
        board.mend(4);
        CHECK.equal("also with a shorter one", Boards.route(board, 2), "0 5 2");
        CHECK.equal("the mended ones are free", board.disjointRoutes(1, 2), 2);
    }

    private static void mendCounts() {
        Switchboard board = Boards.withSwitches(2);
        for (int trunk = 0; trunk < 16; trunk++) {
            board.addTrunk(0, 1, 1);
            board.cut(trunk);
        }
        for (int trunk = 15; trunk >= 0; trunk--) {
            CHECK.equal("mend(" + trunk + ")", board.mend(trunk), trunk);
        }
    }

    private static void mendWhole() {
        Edge.refused("a free trunk", Edge.STATE, Boards::rich, board -> board.mend(0));
        Edge.refused("a used trunk", Edge.STATE, Boards::rich, board -> board.mend(1));
        Edge.refused("a mended trunk", Edge.STATE, Boards.richAnd(board -> board.mend(3)), board -> board.mend(3));
        CHECK.equal("a cut trunk", Boards.rich().mend(3), 1);
    }

    // Promises 10 to 16

    private static void countSwitches() {
        CHECK.equal("none", new Switchboard().switches(), 0);
        CHECK.equal("one", Boards.withSwitches(1).switches(), 1);
        CHECK.equal("all", Boards.full().switches(), 8);
    }

    private static void countTrunks() {
        CHECK.equal("none", Boards.withSwitches(8).trunks(), 0);
        Switchboard board = Boards.full();
        CHECK.equal("all", board.trunks(), 16);
        for (int trunk = 0; trunk < 16; trunk++) {
            board.cut(trunk);
            CHECK.equal("with cut ones", board.trunks(), 16);
        }
    }

    private static void edgeLengths() {
        Switchboard board = Boards.full();
        for (int trunk = 0; trunk < 16; trunk++) {
            CHECK.equal("trunk " + trunk, board.trunkLength(trunk), 1 + trunk);
        }
    }

    private static void bothEnds() {
        Switchboard board = Boards.full();
        for (int trunk = 0; trunk < 16; trunk++) {
            int one = trunk % 8;
            int other = (trunk + 1) % 8;
            CHECK.equal("trunk " + trunk + " from " + one, board.otherEnd(trunk, one), other);
            CHECK.equal("trunk " + trunk + " from " + other, board.otherEnd(trunk, other), one);
        }
    }

    private static void noEnd() {
        Edge.refused("switch 2", Edge.ARGUMENT, Boards::rich, board -> board.otherEnd(0, 2));
        Edge.refused("switch 0", Edge.ARGUMENT, Boards::rich, board -> board.otherEnd(1, 0));
        for (int number : NO_RICH_SWITCH) {
            Edge.refused("switch " + number, Edge.ARGUMENT, Boards::rich, board -> board.otherEnd(0, number));
        }
        Edge.refused("switch 8 of 8", Edge.ARGUMENT, Boards::full, board -> board.otherEnd(15, 8));
    }

    private static void askCut() {
        Switchboard board = Boards.full();
        for (int trunk = 0; trunk < 16; trunk++) {
            CHECK.no("trunk " + trunk + " at first", board.isCut(trunk));
            board.cut(trunk);
            CHECK.yes("trunk " + trunk + " cut", board.isCut(trunk));
            board.mend(trunk);
            CHECK.no("trunk " + trunk + " mended", board.isCut(trunk));
        }
    }

    private static void users() {
        Switchboard board = Boards.full();
        for (int caller = 0; caller < 5; caller++) {
            for (int hop = 0; hop < board.routeSize(caller); hop++) {
                int trunk = board.routeTrunk(caller, hop);
                CHECK.equal("trunk " + trunk, board.userOf(trunk), caller);
            }
        }
        Switchboard turned = Boards.ofTwo();
        turned.call(5, 0);
        CHECK.equal("the caller, not the callee", turned.userOf(0), 5);
    }

    private static void noUser() {
        Consumer<Switchboard> ask = board -> board.userOf(1);
        Edge.refused("a free trunk", Edge.ELEMENT, Boards::rich, board -> board.userOf(0));
        Edge.refused("a cut trunk", Edge.ELEMENT, Boards::rich, board -> board.userOf(3));
        Edge.refused("after hangUp", Edge.ELEMENT, Boards.richAnd(board -> board.hangUp(3)), ask);
        Edge.refused("after a cut", Edge.ELEMENT, Boards.richAnd(board -> board.cut(1)), ask);
        Edge.refused("the last of 16", Edge.ELEMENT, EdgeNetwork::fullOfTrunks, board -> board.userOf(15));
        CHECK.equal("a used trunk", Boards.rich().userOf(1), 2);
    }

    private static void minutesCarried() {
        Switchboard board = Boards.ofTwo();
        board.pass(60);
        CHECK.equal("without a call", board.minutesOn(0), 0);
        board.call(0, 1);
        CHECK.equal("before a minute has passed", board.minutesOn(0), 0);
        board.pass(1);
        board.hangUp(0);
        board.pass(60);
        CHECK.equal("only with a call", board.minutesOn(0), 1);
        board.call(2, 3);
        board.pass(60);
        CHECK.equal("the minutes of two calls", board.minutesOn(0), 61);
        board.undo();
        CHECK.equal("undone", board.minutesOn(0), 1);
        CHECK.equal("another trunk", board.minutesOn(1), 0);
        Switchboard full = Boards.full();
        for (int hour = 0; hour < 400; hour++) {
            full.pass(60);
        }
        CHECK.equal("400 hours", full.minutesOn(full.routeTrunk(0, 0)), 24000);
    }
}
