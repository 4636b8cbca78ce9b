import java.util.function.Consumer;
import java.util.function.Supplier;

/** Switchboards to begin a test with, and what several tests do with them. */
final class Boards {
    static final int[] WILD = {Integer.MIN_VALUE, -1000000, -1, 1000000, Integer.MAX_VALUE};

    private Boards() {
    }

    static Switchboard withSwitches(int count) {
        Switchboard board = new Switchboard();
        for (int number = 0; number < count; number++) {
            board.addSwitch();
        }
        return board;
    }

    /** Switches 0 and 1 with trunks of the lengths 3, 5 and 5; subscribers 0, 2, 4 at 0 and 1, 3, 5 at 1; tariff 1. */
    static Switchboard ofTwo() {
        Switchboard board = withSwitches(2);
        board.addTrunk(0, 1, 3);
        board.addTrunk(1, 0, 5);
        board.addTrunk(0, 1, 5);
        for (int number = 0; number < 6; number++) {
            board.addSubscriber(number % 2, 1);
        }
        return board;
    }

    /**
     * Something of everything: 4 switches, 6 trunks, 7 subscribers, 2 calls, a cut, an ended call, a saved
     * state, a full history and full blocked calls that have come round, an error position 3, a failed
     * command 1, an output line, and "switc" in the program buffer.
     */
    static Switchboard rich() {
        Switchboard board = withSwitches(4);
        int[][] trunks = {{0, 1, 3}, {1, 2, 4}, {2, 3, 5}, {0, 2, 9}, {3, 0, 20}, {1, 0, 3}};
        for (int[] trunk : trunks) {
            board.addTrunk(trunk[0], trunk[1], trunk[2]);
        }
        int[][] subscribers = {{0, 0}, {3, 1}, {1, 2}, {2, 1}, {0, 2}, {3, 0}, {0, 1}};
        for (int[] subscriber : subscribers) {
            board.addSubscriber(subscriber[0], subscriber[1]);
        }
        board.call(0, 3);
        board.pass(7);
        board.hangUp(3);
        board.save();
        board.call(2, 3);
        board.call(0, 4);
        board.pass(5);
        board.cut(3);
        board.cut(4);
        for (int callee = 0; callee < 5; callee++) {
            attempt(board, each -> each.call(6, 1));
            int busy = callee;
            attempt(board, each -> each.call(busy == 2 ? 1 : 2, busy));
        }
        type(board, "cutx");
        attempt(board, Switchboard::run);
        type(board, "wait;cut 9");
        attempt(board, Switchboard::run);
        type(board, "switc");
        board.writeTrunk(1);
        return board;
    }

    static Supplier<Switchboard> richAnd(Consumer<Switchboard> more) {
        return () -> {
            Switchboard board = rich();
            more.accept(board);
            return board;
        };
    }

    /**
     * As many switches, trunks, subscribers and calls as there can be: 0>9, 1>8, 2>7, 3>6 and 4>5, each from
     * the switch of the caller's number to the next one over the trunk of the same number.
     */
    static Switchboard full() {
        Switchboard board = withSwitches(8);
        for (int trunk = 0; trunk < 16; trunk++) {
            board.addTrunk(trunk % 8, (trunk + 1) % 8, 1 + trunk);
        }
        int[] homes = {0, 1, 2, 3, 4, 5, 4, 3, 2, 1};
        for (int number = 0; number < 10; number++) {
            board.addSubscriber(homes[number], number % 3);
        }
        for (int caller = 0; caller < 5; caller++) {
            board.call(caller, 9 - caller);
        }
        return board;
    }

    /** Makes a call that may be refused. */
    static void attempt(Switchboard board, Consumer<Switchboard> act) {
        try {
            act.accept(board);
        } catch (RuntimeException refusal) {
            return;
        }
    }

    static String line(Switchboard board, int length) {
        StringBuilder line = new StringBuilder();
        for (int index = 0; index < length; index++) {
            line.append(board.charAt(index));
        }
        return line.toString();
    }

    static String calls(Switchboard board) {
        return line(board, board.writeCalls());
    }

    static String trunk(Switchboard board, int trunk) {
        return line(board, board.writeTrunk(trunk));
    }

    static String route(Switchboard board, int subscriber) {
        StringBuilder route = new StringBuilder();
        for (int index = 0; index < board.routeSize(subscriber); index++) {
            route.append(index == 0 ? "" : " ").append(board.routeTrunk(subscriber, index));
        }
        return route.toString();
    }

    static void type(Switchboard board, String text) {
        for (int index = 0; index < text.length(); index++) {
            board.type(text.charAt(index));
        }
    }

    static int run(Switchboard board, String text) {
        type(board, text);
        return board.run();
    }
}
