import java.util.NoSuchElementException;
import java.util.function.Supplier;

/**
 * All that can be seen of a switchboard, as text: also what undo and restore bring back, and what the
 * program buffer does. Each look takes a new board, so that none is used for more than 512 calls.
 */
final class Trace {
    private interface Question {
        Object ask();
    }

    final String states;
    final String buffer;
    final String blocked;
    final String errorPosition;
    final String failedCommand;
    final String line;

    Trace(Supplier<Switchboard> maker) {
        states = states(maker);
        buffer = buffer(maker.get());
        blocked = blocked(maker.get());
        Switchboard board = maker.get();
        errorPosition = answer(board::errorPosition);
        failedCommand = answer(board::failedCommand);
        line = line(board);
    }

    private static String answer(Question question) {
        try {
            return String.valueOf(question.ask());
        } catch (RuntimeException refusal) {
            return refusal.getClass().getSimpleName();
        }
    }

    private static String states(Supplier<Switchboard> maker) {
        StringBuilder text = new StringBuilder();
        for (int steps = 0; steps <= 9; steps++) {
            Switchboard board = maker.get();
            for (int step = 0; step < steps; step++) {
                text.append("undo ").append(answer(board::undo)).append(' ');
            }
            text.append(picture(board)).append('\n');
        }
        Switchboard board = maker.get();
        text.append("restore ").append(answer(board::restore)).append(' ').append(picture(board));
        return text.append(" undo ").append(answer(board::undo)).toString();
    }

    /** The state as it is now. */
    static String picture(Switchboard board) {
        StringBuilder text = new StringBuilder();
        text.append(board.switches()).append(" switches, ").append(board.trunks()).append(" trunks");
        for (int number = 0; number < board.trunks(); number++) {
            int trunk = number;
            text.append(", ").append(ends(board, trunk)).append('=').append(board.trunkLength(trunk));
            text.append(board.isCut(trunk) ? "x" : "").append(" by ").append(answer(() -> board.userOf(trunk)));
            text.append(" for ").append(board.minutesOn(trunk));
        }
        text.append("; ").append(board.subscribers()).append(" subscribers");
        for (int number = 0; number < board.subscribers(); number++) {
            int one = number;
            text.append(", ").append(board.home(one)).append('/').append(board.tariff(one));
            text.append(" bill ").append(board.bill(one));
            if (board.isTalking(one)) {
                text.append(" to ").append(board.partner(one)).append(" over ").append(Boards.route(board, one));
                text.append(" costs ").append(board.chargeNow(one));
            }
        }
        text.append("; ").append(board.calls()).append(" calls ").append(Boards.calls(board));
        text.append("; bills ").append(board.totalBills()).append(", charges ").append(board.totalCharges());
        text.append(", mean ").append(answer(board::meanCharge)).append(", share ").append(answer(board::usedShare));
        return text.append(", consistent ").append(board.isConsistent()).toString();
    }

    private static String ends(Switchboard board, int trunk) {
        for (int end = 0; end < board.switches(); end++) {
            int one = end;
            String other = answer(() -> board.otherEnd(trunk, one));
            if (!other.equals("IllegalArgumentException")) {
                return one + "-" + other;
            }
        }
        throw new NoSuchElementException("trunk " + trunk + " has no end");
    }

    private static String buffer(Switchboard board) {
        return "type " + answer(() -> board.type('h')) + ", run " + answer(board::run)
                + ", error " + answer(board::errorPosition) + ", switches " + board.switches();
    }

    /** The blocked calls, each as its caller, its reason and its callee. */
    static String blocked(Switchboard board) {
        StringBuilder text = new StringBuilder();
        for (int number = 0; number < board.blockedCalls(); number++) {
            text.append(number == 0 ? "" : " ").append(board.blockedCaller(number));
            text.append(board.blockedReason(number)).append(board.blockedCallee(number));
        }
        return text.toString();
    }

    private static String line(Switchboard board) {
        StringBuilder text = new StringBuilder();
        for (int index = 0; index < 100; index++) {
            int place = index;
            String character = answer(() -> board.charAt(place));
            if (character.length() != 1) {
                return text.append(' ').append(character).toString();
            }
            text.append(character);
        }
        return text.toString();
    }
}
