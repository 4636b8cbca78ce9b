import java.util.NoSuchElementException;

/** Promises 17 to 20: lengths of routes and numbers of disjoint routes. */
public final class RouteTest {
    private static final Check CHECK = new Check("RouteTest");

    public static void main(String[] args) {
        lengths();
        lengthsOverFreeTrunks();
        disjoint();
        flowGoesBack();
        refusals();
        CHECK.end();
    }

    private static void checkLength(Switchboard board, int from, int to, int want) {
        CHECK.equal("routeLength " + from + " " + to, board.routeLength(from, to), want);
        CHECK.equal("by relaxation " + from + " " + to, board.routeLengthByRelaxation(from, to), want);
    }

    private static void checkNoRoute(Switchboard board, int from, int to) {
        CHECK.refused("routeLength", NoSuchElementException.class, () -> board.routeLength(from, to));
        CHECK.refused("by relaxation", NoSuchElementException.class, () -> board.routeLengthByRelaxation(from, to));
    }

    private static void checkRoutes(Switchboard board, int from, int to, int want) {
        CHECK.equal("disjointRoutes " + from + " " + to, board.disjointRoutes(from, to), want);
        CHECK.equal("minimalCut " + from + " " + to, board.minimalCut(from, to), want);
    }

    // Promises 17 and 18
    private static void lengths() {
        Switchboard board = Boards.withSwitches(8);
        checkLength(board, 0, 0, 0);
        checkLength(board, 7, 7, 0);
        checkNoRoute(board, 0, 7);
        for (int number = 6; number >= 0; number--) {
            board.addTrunk(number, number + 1, 20);
        }
        checkLength(board, 0, 7, 140);
        checkLength(board, 7, 0, 140);
        checkLength(board, 3, 3, 0);
        board.addTrunk(0, 6, 20);
        board.addTrunk(7, 5, 19);
        checkLength(board, 0, 7, 40);
        checkLength(board, 0, 5, 40);
        checkLength(board, 5, 7, 19);
        checkLength(board, 4, 7, 39);
        board.addTrunk(5, 7, 1);
        checkLength(board, 7, 5, 1);
        checkLength(board, 4, 7, 21);
        checkLength(board, 0, 7, 40);
    }

    private static void lengthsOverFreeTrunks() {
        Switchboard board = Boards.ofTwo();
        checkLength(board, 0, 1, 3);
        board.call(0, 1);
        checkLength(board, 0, 1, 5);
        board.cut(1);
        checkLength(board, 1, 0, 5);
        board.cut(2);
        checkNoRoute(board, 0, 1);
        checkLength(board, 1, 1, 0);
        board.hangUp(0);
        checkLength(board, 0, 1, 3);
    }

    // Promises 19 and 20
    private static void disjoint() {
        Switchboard board = Boards.ofTwo();
        board.addSwitch();
        board.addSwitch();
        checkRoutes(board, 0, 1, 3);
        checkRoutes(board, 0, 2, 0);
        board.addTrunk(1, 2, 1);
        board.addTrunk(2, 1, 20);
        checkRoutes(board, 0, 2, 2);
        checkRoutes(board, 2, 0, 2);
        checkRoutes(board, 0, 3, 0);
        board.addTrunk(0, 3, 4);
        board.addTrunk(3, 2, 4);
        checkRoutes(board, 0, 2, 3);
        board.call(0, 1);
        checkRoutes(board, 0, 1, 3);
        board.cut(3);
        checkRoutes(board, 0, 2, 2);
        Switchboard full = Boards.withSwitches(2);
        for (int trunk = 0; trunk < 16; trunk++) {
            full.addTrunk(trunk % 2, 1 - trunk % 2, 1 + trunk);
        }
        checkRoutes(full, 0, 1, 16);
    }

    /** The first augmenting path takes the diagonal, which a second one must take back. */
    private static void flowGoesBack() {
        Switchboard board = Boards.withSwitches(8);
        board.addTrunk(0, 1, 1); // 0
        board.addTrunk(1, 6, 1); // 1, the diagonal
        board.addTrunk(6, 7, 1); // 2
        board.addTrunk(0, 2, 1); // 3
        board.addTrunk(2, 3, 1); // 4
        board.addTrunk(3, 6, 1); // 5
        board.addTrunk(1, 4, 1); // 6
        board.addTrunk(4, 5, 1); // 7
        board.addTrunk(5, 7, 1); // 8
        checkRoutes(board, 0, 7, 2);
        checkRoutes(board, 7, 0, 2);
        Switchboard turned = Boards.withSwitches(8);
        turned.addTrunk(1, 0, 1);
        turned.addTrunk(6, 1, 1);
        turned.addTrunk(7, 6, 1);
        turned.addTrunk(2, 0, 1);
        turned.addTrunk(3, 2, 1);
        turned.addTrunk(6, 3, 1);
        turned.addTrunk(4, 1, 1);
        turned.addTrunk(5, 4, 1);
        turned.addTrunk(7, 5, 1);
        checkRoutes(turned, 0, 7, 2);
        checkRoutes(turned, 7, 0, 2);
        checkRoutes(turned, 2, 7, 2);
    }

    private static void refusals() {
        Switchboard board = Boards.ofTwo();
        CHECK.refused("disjointRoutes of one", IllegalArgumentException.class, () -> board.disjointRoutes(1, 1));
        CHECK.refused("minimalCut of one", IllegalArgumentException.class, () -> board.minimalCut(0, 0));
        int[] numbers = {2, 8, 31, 32, 33, -1, -31, -32, Integer.MIN_VALUE, Integer.MAX_VALUE};
        for (int number : numbers) {
            refuseBoth(board, number, 0);
            refuseBoth(board, 1, number);
            refuseBoth(board, number, number);
        }
    }

    private static void refuseBoth(Switchboard board, int from, int to) {
        Class<IndexOutOfBoundsException> due = IndexOutOfBoundsException.class;
        CHECK.refused("routeLength", due, () -> board.routeLength(from, to));
        CHECK.refused("routeLengthByRelaxation", due, () -> board.routeLengthByRelaxation(from, to));
        CHECK.refused("disjointRoutes", due, () -> board.disjointRoutes(from, to));
        CHECK.refused("minimalCut", due, () -> board.minimalCut(from, to));
    }
}
