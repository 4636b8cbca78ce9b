/** Switchboards to begin a test with, and what several tests do with them. */
final class Boards {
    static final int[] WILD = {Integer.MIN_VALUE, -1000000, -1, 1000000, Integer.MAX_VALUE};

    private Boards() {
    }

    static Switchboard withSwitches(int count) {
        Switchboard board = new Switchboard();
        for (int number = 0; number < count; number++) {
            board.addSwitch();
        }
        return board;
    }

    /** Switches 0 and 1 with trunks of the lengths 3, 5 and 5; subscribers 0, 2, 4 at 0 and 1, 3, 5 at 1; tariff 1. */
    static Switchboard ofTwo() {
        Switchboard board = withSwitches(2);
        board.addTrunk(0, 1, 3);
        board.addTrunk(1, 0, 5);
        board.addTrunk(0, 1, 5);
        for (int number = 0; number < 6; number++) {
            board.addSubscriber(number % 2, 1);
        }
        return board;
    }

    static String line(Switchboard board, int length) {
        StringBuilder line = new StringBuilder();
        for (int index = 0; index < length; index++) {
            line.append(board.charAt(index));
        }
        return line.toString();
    }

    static String calls(Switchboard board) {
        return line(board, board.writeCalls());
    }

    static String trunk(Switchboard board, int trunk) {
        return line(board, board.writeTrunk(trunk));
    }

    static String route(Switchboard board, int subscriber) {
        StringBuilder route = new StringBuilder();
        for (int index = 0; index < board.routeSize(subscriber); index++) {
            route.append(index == 0 ? "" : " ").append(board.routeTrunk(subscriber, index));
        }
        return route.toString();
    }

    static void type(Switchboard board, String text) {
        for (int index = 0; index < text.length(); index++) {
            board.type(text.charAt(index));
        }
    }

    static int run(Switchboard board, String text) {
        type(board, text);
        return board.run();
    }
}
