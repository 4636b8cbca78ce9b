import java.util.NoSuchElementException;

/** Promises 32 to 44: blocked calls, statistics and output. */
public final class RecordTest {
    private static final Check CHECK = new Check("RecordTest");

    public static void main(String[] args) {
        blockedCalls();
        bills();
        ranks();
        meanCharge();
        usedShare();
        isConsistent();
        writeTrunk();
        writeCalls();
        charAt();
        CHECK.end();
    }

    // Promises 32 to 35
    private static void blockedCalls() {
        Switchboard board = Boards.ofTwo();
        refuseBlocked(board, 0);
        board.call(0, 1);
        CHECK.refused("busy", IllegalStateException.class, () -> board.call(2, 1));
        CHECK.equal("one is kept", Trace.blocked(board), "2b1");
        board.cut(1);
        board.cut(2);
        CHECK.refused("no route", UnsupportedOperationException.class, () -> board.call(4, 3));
        CHECK.equal("two are kept", Trace.blocked(board), "2b1 4r3");
        for (int number = 0; number < 6; number++) {
            int callee = 1 + number / 2;
            CHECK.refused("busy", IllegalStateException.class, () -> board.call(0, callee));
        }
        CHECK.equal("eight are kept", Trace.blocked(board), "2b1 4r3 0b1 0b1 0b2 0b2 0b3 0b3");
        CHECK.refused("no route", UnsupportedOperationException.class, () -> board.call(5, 2));
        CHECK.equal("the oldest goes", Trace.blocked(board), "4r3 0b1 0b1 0b2 0b2 0b3 0b3 5r2");
        refuseBlocked(board, 8);
        CHECK.refused("busy", IllegalStateException.class, () -> board.call(1, 5));
        CHECK.equal("and the next", Trace.blocked(board), "0b1 0b1 0b2 0b2 0b3 0b3 5r2 1b5");
        CHECK.equal("they are at most 8", board.blockedCalls(), 8);
        for (int wild : Boards.WILD) {
            refuseBlocked(board, wild);
        }
    }

    private static void refuseBlocked(Switchboard board, int number) {
        Class<NoSuchElementException> due = NoSuchElementException.class;
        CHECK.refused("blockedCaller " + number, due, () -> board.blockedCaller(number));
        CHECK.refused("blockedCallee " + number, due, () -> board.blockedCallee(number));
        CHECK.refused("blockedReason " + number, due, () -> board.blockedReason(number));
    }

    // Promises 24, 36 and 37
    private static void bills() {
        Switchboard board = Boards.ofTwo();
        board.call(0, 1);
        board.call(3, 2);
        board.pass(5);
        CHECK.equal("totalBills of running calls", board.totalBills(), 0);
        CHECK.equal("totalCharges of running calls", board.totalCharges(), 0);
        board.hangUp(0);
        CHECK.equal("totalBills", board.totalBills(), 20);
        CHECK.equal("totalCharges", board.totalCharges(), 20);
        board.cut(0);
        board.cut(1);
        CHECK.equal("the call goes on", board.calls(), 1);
        board.cut(2);
        CHECK.equal("totalBills with a lost call", board.totalBills(), 50);
        CHECK.equal("totalCharges with a lost call", board.totalCharges(), 50);
        CHECK.equal("the bill of its caller", board.bill(3), 30);
    }

    // Promise 38
    private static void ranks() {
        Switchboard board = Boards.ofTwo();
        CHECK.equal("all are equal: the first", board.subscriberByBill(0), 0);
        CHECK.equal("all are equal: the last", board.subscriberByBill(5), 5);
        board.call(4, 5);
        board.pass(1);
        board.hangUp(5);
        board.call(1, 2);
        board.pass(2);
        board.hangUp(2);
        board.call(3, 0);
        board.pass(1);
        board.hangUp(3);
        int[] want = {1, 3, 4, 0, 2, 5};
        for (int rank = 0; rank < 6; rank++) {
            CHECK.equal("rank " + rank, board.subscriberByBill(rank), want[rank]);
        }
        CHECK.refused("rank 6", NoSuchElementException.class, () -> board.subscriberByBill(6));
        for (int wild : Boards.WILD) {
            CHECK.refused("rank " + wild, NoSuchElementException.class, () -> board.subscriberByBill(wild));
        }
        Switchboard empty = Boards.withSwitches(1);
        CHECK.refused("no subscribers", NoSuchElementException.class, () -> empty.subscriberByBill(0));
    }

    // Promise 39
    private static void meanCharge() {
        Switchboard board = Boards.ofTwo();
        CHECK.refused("no call", ArithmeticException.class, board::meanCharge);
        board.call(0, 1);
        board.pass(1);
        CHECK.refused("no ended call", ArithmeticException.class, board::meanCharge);
        board.hangUp(0);
        CHECK.equal("one call", board.meanCharge(), 4.0);
        board.call(0, 2);
        board.hangUp(0);
        CHECK.equal("two calls", board.meanCharge(), 2.0);
        board.call(0, 2);
        board.pass(1);
        board.hangUp(0);
        CHECK.equal("three calls", board.meanCharge(), 5.0 / 3.0);
        board.undo();
        CHECK.equal("undone", board.meanCharge(), 2.0);
    }

    // Promise 40
    private static void usedShare() {
        Switchboard board = Boards.withSwitches(2);
        CHECK.refused("no trunks", ArithmeticException.class, board::usedShare);
        Switchboard two = Boards.ofTwo();
        CHECK.equal("none used", two.usedShare(), 0.0f);
        two.call(0, 1);
        CHECK.equal("one used", two.usedShare(), 1.0f / 3.0f);
        two.cut(2);
        CHECK.equal("cut ones count as trunks", two.usedShare(), 1.0f / 3.0f);
        two.call(2, 3);
        CHECK.equal("two used", two.usedShare(), 2.0f / 3.0f);
        two.mend(2);
        two.call(4, 5);
        CHECK.equal("all used", two.usedShare(), 1.0f);
    }

    // Promise 41
    private static void isConsistent() {
        Switchboard board = Boards.withSwitches(8);
        for (int number = 0; number < 8; number++) {
            board.addSubscriber(number, number % 3);
            board.addTrunk(number, (number + 1) % 8, 1 + 2 * number);
            board.addTrunk(number, (number + 3) % 8, 20 - 2 * number);
        }
        CHECK.yes("isConsistent at first", board.isConsistent());
        board.call(0, 4);
        board.call(3, 6);
        board.call(5, 1);
        CHECK.yes("isConsistent with calls", board.isConsistent());
        board.pass(3);
        board.cut(board.routeTrunk(0, 0));
        CHECK.yes("isConsistent with a cut", board.isConsistent());
        board.hangUp(6);
        CHECK.yes("isConsistent with a charge", board.isConsistent());
        board.undo();
        CHECK.yes("isConsistent after undo", board.isConsistent());
    }

    // Promise 42
    private static void writeTrunk() {
        Switchboard board = Boards.withSwitches(4);
        board.addTrunk(3, 0, 12);
        board.addTrunk(1, 2, 7);
        board.addSubscriber(0, 0);
        board.addSubscriber(3, 0);
        CHECK.equal("a free trunk", Boards.trunk(board, 0), "0-3=12");
        CHECK.equal("writeTrunk(0)", board.writeTrunk(0), 6);
        CHECK.equal("another", Boards.trunk(board, 1), "1-2=7");
        CHECK.equal("writeTrunk(1)", board.writeTrunk(1), 5);
        board.call(0, 1);
        CHECK.equal("a used trunk", Boards.trunk(board, 0), "0-3=12*");
        CHECK.equal("a free one beside it", Boards.trunk(board, 1), "1-2=7");
        board.cut(0);
        CHECK.equal("a cut trunk", Boards.trunk(board, 0), "0-3=12x");
        CHECK.refused("writeTrunk(2)", IndexOutOfBoundsException.class, () -> board.writeTrunk(2));
        for (int wild : Boards.WILD) {
            CHECK.refused("writeTrunk " + wild, IndexOutOfBoundsException.class, () -> board.writeTrunk(wild));
        }
        CHECK.equal("a refusal keeps the line", Boards.line(board, 7), "0-3=12x");
    }

    // Promise 43
    private static void writeCalls() {
        Switchboard board = Boards.ofTwo();
        board.writeTrunk(0);
        CHECK.equal("writeCalls without calls", board.writeCalls(), 0);
        CHECK.refused("the line is empty", IndexOutOfBoundsException.class, () -> board.charAt(0));
        board.call(3, 0);
        CHECK.equal("one call", Boards.calls(board), "3>0:0");
        CHECK.equal("writeCalls", board.writeCalls(), 5);
        board.pass(12);
        board.call(1, 2);
        board.call(4, 5);
        CHECK.equal("three calls", Boards.calls(board), "3>0:12 1>2:0 4>5:0");
        board.pass(60);
        board.pass(28);
        board.hangUp(2);
        CHECK.equal("the middle one ends", Boards.calls(board), "3>0:100 4>5:88");
        board.call(2, 1);
        CHECK.equal("the order is that of the start", Boards.calls(board), "3>0:100 4>5:88 2>1:0");
        board.hangUp(0);
        CHECK.equal("the first one ends", Boards.calls(board), "4>5:88 2>1:0");
    }

    // Promise 44
    private static void charAt() {
        Switchboard board = Boards.ofTwo();
        CHECK.refused("charAt of a new line", IndexOutOfBoundsException.class, () -> board.charAt(0));
        board.writeTrunk(1);
        CHECK.equal("charAt(0)", board.charAt(0), '0');
        CHECK.equal("charAt(1)", board.charAt(1), '-');
        CHECK.equal("charAt(4)", board.charAt(4), '5');
        CHECK.refused("charAt(5)", IndexOutOfBoundsException.class, () -> board.charAt(5));
        for (int wild : Boards.WILD) {
            CHECK.refused("charAt " + wild, IndexOutOfBoundsException.class, () -> board.charAt(wild));
        }
        board.cut(1);
        CHECK.refused("the line stays as it was", IndexOutOfBoundsException.class, () -> board.charAt(5));
        board.undo();
        CHECK.equal("undo keeps the line", board.charAt(4), '5');
    }
}
