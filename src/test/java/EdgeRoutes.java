/** Boundary sentences about routes and capacities: the routes of the terms, and promises 17 to 20. */
final class EdgeRoutes {
    private static final Check CHECK = Edge.CHECK;
    private static final int[] NO_RICH_SWITCH = {Integer.MIN_VALUE, -33, -32, -1, 4, 8, 31, 32, 36, Integer.MAX_VALUE};

    private interface Pair {
        int ask(Switchboard board, int from, int to);
    }

    private EdgeRoutes() {
    }

    static void tell() {
        Edge.at(Edge.TERMS, "visits no switch twice; from a switch to itself it is the empty sequence.",
                EdgeRoutes::emptyAndLongest);
        Edge.at(Edge.TERMS, "The length of a route is the sum of the lengths of its trunks.", EdgeRoutes::sums);
        Edge.at(Edge.TERMS, "The best route over some trunks is the route with the smallest length",
                EdgeRoutes::smallestLength);
        Edge.at(Edge.TERMS, "among several, the one with the fewest trunks", EdgeRoutes::fewestTrunks);
        Edge.at(Edge.TERMS, "among several of these, the one whose first trunk has the smallest number",
                EdgeRoutes::smallestFirst);
        Edge.at(Edge.TERMS, "if the first trunks are the same, whose second trunk has the smallest number, and so on",
                EdgeRoutes::smallestLater);
        Edge.at(Edge.TERMS, "seen from the first switch.", EdgeRoutes::seenFromTheFirst);
        tellLengths(17, Switchboard::routeLength);
        tellLengths(18, Switchboard::routeLengthByRelaxation);
        tellCapacities(19, Switchboard::disjointRoutes);
        tellCapacities(20, Switchboard::minimalCut);
    }

    private static void tellLengths(int promise, Pair pair) {
        Edge.at(promise, "Returns the length.", () -> lengths(pair));
        Edge.at(promise, "- `to`: a switch, perhaps the same one", () -> sameSwitch(pair));
        Edge.at(promise, "Throws `IndexOutOfBoundsException` if one of the switches does not exist",
                () -> noSwitch(pair));
        Edge.at(promise, "Throws `NoSuchElementException` if there is no route", () -> noRoute(pair));
    }

    private static void tellCapacities(int promise, Pair pair) {
        Edge.at(promise, promise == 19 ? "Returns the number of routes." : "Returns the number of trunks.",
                () -> capacities(pair));
        Edge.at(promise, "Throws `IndexOutOfBoundsException` if one of the switches does not exist",
                () -> noSwitch(pair));
        Edge.at(promise, "Throws `IllegalArgumentException` if both switches are the same one",
                () -> sameRefused(pair));
    }

    /** Switches, and trunks as from, to, length; subscribers 0 and 1 at the first and the last switch. */
    private static Switchboard net(int switches, int[][] trunks) {
        Switchboard board = Boards.withSwitches(switches);
        for (int[] trunk : trunks) {
            board.addTrunk(trunk[0], trunk[1], trunk[2]);
        }
        board.addSubscriber(0, 1);
        board.addSubscriber(switches - 1, 1);
        return board;
    }

    private static void checkRoute(String what, String want, int switches, int[][] trunks) {
        Switchboard board = net(switches, trunks);
        board.call(0, 1);
        CHECK.equal(what, Boards.route(board, 0), want);
    }

    /** A chain of seven trunks of the length 20. */
    private static Switchboard chain() {
        int[][] trunks = new int[7][];
        for (int number = 0; number < 7; number++) {
            trunks[number] = new int[] {number, number + 1, 20};
        }
        return net(8, trunks);
    }

    private static void emptyAndLongest() {
        Switchboard same = Boards.withSwitches(1);
        same.addSubscriber(0, 1);
        same.addSubscriber(0, 1);
        CHECK.equal("the length of the empty route", same.call(0, 1), 0);
        CHECK.equal("its trunks", same.routeSize(0), 0);
        Switchboard loop = Boards.withSwitches(2);
        loop.addTrunk(0, 1, 1);
        loop.addTrunk(0, 1, 1);
        loop.addSubscriber(0, 1);
        loop.addSubscriber(0, 1);
        CHECK.equal("no loop over two trunks", loop.call(0, 1), 0);
        CHECK.equal("no trunk of it is used", loop.usedShare(), 0.0f);
        Switchboard chain = chain();
        chain.call(0, 1);
        CHECK.equal("all switches once", chain.routeSize(0), 7);
        CHECK.equal("the route", Boards.route(chain, 0), "0 1 2 3 4 5 6");
    }

    private static void sums() {
        CHECK.equal("of none", Boards.withSwitches(1).routeLength(0, 0), 0);
        Switchboard one = net(2, new int[][] {{1, 0, 1}});
        CHECK.equal("of one trunk of the length 1", one.call(0, 1), 1);
        CHECK.equal("of seven trunks of the length 20", chain().call(0, 1), 140);
        Switchboard two = net(3, new int[][] {{0, 1, 20}, {1, 2, 1}});
        CHECK.equal("of the greatest and the least", two.call(0, 1), 21);
    }

    private static void smallestLength() {
        checkRoute("1 shorter by two trunks", "1 2", 3, new int[][] {{0, 2, 5}, {0, 1, 2}, {1, 2, 2}});
        checkRoute("1 longer by two trunks", "0", 3, new int[][] {{0, 2, 3}, {0, 1, 2}, {1, 2, 2}});
        int[][] seven = new int[8][];
        seven[0] = new int[] {0, 7, 8};
        for (int number = 0; number < 7; number++) {
            seven[number + 1] = new int[] {number, number + 1, 1};
        }
        checkRoute("1 shorter by seven trunks", "1 2 3 4 5 6 7", 8, seven);
        checkRoute("the last of three twins", "2", 2, new int[][] {{0, 1, 20}, {0, 1, 3}, {1, 0, 2}});
    }

    private static void fewestTrunks() {
        checkRoute("one before two", "2", 3, new int[][] {{0, 1, 2}, {1, 2, 2}, {0, 2, 4}});
        checkRoute("two before three", "3 4", 5,
                new int[][] {{0, 1, 2}, {1, 2, 2}, {2, 4, 2}, {0, 3, 3}, {3, 4, 3}});
        int[][] seven = new int[8][];
        for (int number = 0; number < 7; number++) {
            seven[number] = new int[] {number, number + 1, 1};
        }
        seven[7] = new int[] {0, 7, 7};
        checkRoute("one before seven", "7", 8, seven);
        checkRoute("few within the route too", "2 3", 4, new int[][] {{0, 1, 2}, {1, 2, 2}, {0, 2, 4}, {2, 3, 1}});
        checkRoute("and at its end", "0 3", 4, new int[][] {{0, 1, 1}, {1, 2, 2}, {2, 3, 2}, {1, 3, 4}});
    }

    private static void smallestFirst() {
        checkRoute("of twins", "0", 2, new int[][] {{0, 1, 5}, {1, 0, 5}, {0, 1, 5}});
        checkRoute("whatever follows", "1 3", 4, new int[][] {{2, 3, 2}, {0, 1, 2}, {0, 2, 2}, {1, 3, 2}});
        checkRoute("whatever its length", "0 3", 4, new int[][] {{0, 1, 9}, {0, 2, 1}, {2, 3, 9}, {1, 3, 1}});
        int[][] eleven = new int[11][];
        for (int number = 0; number < 11; number++) {
            eleven[number] = new int[] {0, 1, number == 2 || number == 10 ? 1 : 2};
        }
        checkRoute("2 before 10", "2", 2, eleven);
    }

    private static void smallestLater() {
        checkRoute("the second", "0 1", 3, new int[][] {{0, 1, 5}, {2, 1, 5}, {1, 2, 5}});
        checkRoute("the second of two ways", "0 1 3", 5,
                new int[][] {{0, 1, 1}, {1, 3, 1}, {1, 2, 1}, {3, 4, 1}, {2, 4, 1}});
        checkRoute("the second before the third", "0 1 4", 5,
                new int[][] {{0, 1, 1}, {1, 3, 1}, {1, 2, 1}, {2, 4, 1}, {3, 4, 1}});
        int[][] last = new int[8][];
        for (int number = 0; number < 6; number++) {
            last[number] = new int[] {number, number + 1, 20};
        }
        last[6] = new int[] {7, 6, 20};
        last[7] = new int[] {6, 7, 20};
        checkRoute("the seventh", "0 1 2 3 4 5 6", 8, last);
    }

    private static void seenFromTheFirst() {
        int[][] ring = {{0, 1, 2}, {2, 3, 2}, {0, 2, 2}, {1, 3, 2}};
        Switchboard there = net(4, ring);
        there.call(0, 1);
        CHECK.equal("from 0 to 3", Boards.route(there, 0), "0 3");
        Switchboard back = net(4, ring);
        back.call(1, 0);
        CHECK.equal("from 3 to 0", Boards.route(back, 0), "1 2");
    }

    // Promises 17 and 18

    private static void lengths(Pair pair) {
        Switchboard board = chain();
        CHECK.equal("seven trunks of the length 20", pair.ask(board, 0, 7), 140);
        CHECK.equal("and back", pair.ask(board, 7, 0), 140);
        Switchboard turned = Boards.withSwitches(8);
        for (int number = 6; number >= 0; number--) {
            turned.addTrunk(number, number + 1, 20);
        }
        CHECK.equal("in the other order", pair.ask(turned, 0, 7), 140);
        CHECK.equal("and back", pair.ask(turned, 7, 0), 140);
        Switchboard two = Boards.withSwitches(2);
        two.addTrunk(0, 1, 20);
        CHECK.equal("one trunk of the length 20", pair.ask(two, 0, 1), 20);
        two.addTrunk(1, 0, 1);
        CHECK.equal("one trunk of the length 1", pair.ask(two, 0, 1), 1);
        two.addSubscriber(0, 0);
        two.addSubscriber(1, 0);
        two.call(0, 1);
        CHECK.equal("only free trunks count", pair.ask(two, 0, 1), 20);
    }

    private static void sameSwitch(Pair pair) {
        CHECK.equal("of one switch", pair.ask(Boards.withSwitches(1), 0, 0), 0);
        for (int number = 0; number < 8; number++) {
            CHECK.equal("switch " + number, pair.ask(Boards.full(), number, number), 0);
        }
        Switchboard board = Boards.ofTwo();
        for (int trunk = 0; trunk < 3; trunk++) {
            board.cut(trunk);
        }
        CHECK.equal("with all trunks cut", pair.ask(board, 1, 1), 0);
    }

    private static void noSwitch(Pair pair) {
        for (int number : NO_RICH_SWITCH) {
            Edge.refused("from " + number, Edge.INDEX, Boards::rich, board -> pair.ask(board, number, 0));
            Edge.refused("to " + number, Edge.INDEX, Boards::rich, board -> pair.ask(board, 3, number));
        }
        Edge.refused("switch 0 of none", Edge.INDEX, Switchboard::new, board -> pair.ask(board, 0, 0));
        Edge.refused("switch 8 of 8", Edge.INDEX, Boards::full, board -> pair.ask(board, 7, 8));
        Edge.inside("switch 0", Edge.INDEX, Boards::full, board -> pair.ask(board, 0, 7));
        Edge.inside("switch 7 of 8", Edge.INDEX, Boards::full, board -> pair.ask(board, 7, 0));
        Edge.inside("switch 3 of 4", Edge.INDEX, Boards::rich, board -> pair.ask(board, 3, 0));
    }

    private static void noRoute(Pair pair) {
        Edge.refused("without trunks", Edge.ELEMENT, () -> Boards.withSwitches(2), board -> pair.ask(board, 0, 1));
        Edge.refused("used and cut", Edge.ELEMENT, Boards::rich, board -> pair.ask(board, 0, 3));
        Edge.refused("and back", Edge.ELEMENT, Boards::rich, board -> pair.ask(board, 3, 0));
        CHECK.equal("mended", pair.ask(Boards.richAnd(board -> board.mend(4)).get(), 0, 3), 20);
        CHECK.equal("free again", pair.ask(Boards.richAnd(board -> board.hangUp(2)).get(), 0, 3), 12);
    }

    // Promises 19 and 20

    private static void capacities(Pair pair) {
        CHECK.equal("without trunks", pair.ask(Boards.withSwitches(8), 0, 7), 0);
        Switchboard wide = Boards.withSwitches(2);
        for (int trunk = 0; trunk < 16; trunk++) {
            CHECK.equal("trunks before the next", pair.ask(wide, 1, 0), trunk);
            wide.addTrunk(trunk % 2, 1 - trunk % 2, 20);
        }
        CHECK.equal("all 16 trunks", pair.ask(wide, 0, 1), 16);
        Switchboard eights = Boards.withSwitches(3);
        for (int trunk = 0; trunk < 16; trunk++) {
            eights.addTrunk(trunk / 8, trunk / 8 + 1, 1);
        }
        CHECK.equal("eight routes through one switch", pair.ask(eights, 0, 2), 8);
        CHECK.equal("one route of seven trunks", pair.ask(chain(), 0, 7), 1);
        for (int narrow = 0; narrow < 7; narrow++) {
            Switchboard board = doubleChain(narrow);
            CHECK.equal("narrow at " + narrow, pair.ask(board, 0, 7), 1);
            CHECK.equal("narrow at " + narrow + ", back", pair.ask(board, 7, 0), 1);
        }
        CHECK.equal("narrow nowhere", pair.ask(doubleChain(7), 0, 7), 2);
        Switchboard star = Boards.withSwitches(8);
        for (int middle = 1; middle < 7; middle++) {
            star.addTrunk(0, middle, 1);
            star.addTrunk(middle, 7, 1);
        }
        CHECK.equal("over six switches", pair.ask(star, 0, 7), 6);
        CHECK.equal("at a switch of two trunks", pair.ask(star, 1, 6), 2);
        star.cut(0);
        CHECK.equal("one less by a cut", pair.ask(star, 0, 7), 5);
        star.addSubscriber(0, 0);
        star.addSubscriber(7, 0);
        star.call(0, 1);
        CHECK.equal("one less by a call", pair.ask(star, 7, 0), 4);
    }

    /** A chain of all switches, with two trunks between neighbours but for one place. */
    private static Switchboard doubleChain(int narrow) {
        Switchboard board = Boards.withSwitches(8);
        for (int number = 0; number < 7; number++) {
            board.addTrunk(number, number + 1, 1);
            if (number != narrow) {
                board.addTrunk(number + 1, number, 1);
            }
        }
        return board;
    }

    private static void sameRefused(Pair pair) {
        for (int number = 0; number < 4; number++) {
            int both = number;
            Edge.refused("switch " + both, Edge.ARGUMENT, Boards::rich, board -> pair.ask(board, both, both));
        }
        Edge.refused("the eighth", Edge.ARGUMENT, Boards::full, board -> pair.ask(board, 7, 7));
    }
}
