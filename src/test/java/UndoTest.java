import java.util.function.Consumer;

/** Promises 49 to 51: undo and snapshots. */
public final class UndoTest {
    private static final Check CHECK = new Check("UndoTest");

    public static void main(String[] args) {
        everyChange();
        eightLatest();
        newChangeAfterUndo();
        whatIsNoChange();
        whatStays();
        saveAndRestore();
        rowsStartAnew();
        rowsComeBack();
        CHECK.end();
    }

    // Promise 49
    private static void everyChange() {
        undone("addSwitch", Switchboard::addSwitch);
        undone("addTrunk", board -> board.addTrunk(0, 1, 9));
        undone("addSubscriber", board -> board.addSubscriber(1, 2));
        undone("call", board -> board.call(3, 2));
        undone("hangUp", board -> board.hangUp(1));
        undone("cut", board -> board.cut(0));
        undone("mend", board -> board.mend(2));
        undone("pass", board -> board.pass(60));
        undone("run", board -> Boards.run(board, "mend 2;cut 1"));
    }

    private static void undone(String name, Consumer<Switchboard> change) {
        Switchboard board = Boards.ofTwo();
        board.call(0, 1);
        board.pass(5);
        board.cut(2);
        String before = picture(board);
        change.accept(board);
        CHECK.no(name + " changes something", picture(board).equals(before));
        CHECK.equal("undo of " + name, board.undo(), 7);
        CHECK.equal("all after undo of " + name, picture(board), before);
    }

    private static String picture(Switchboard board) {
        StringBuilder text = new StringBuilder();
        text.append(board.switches()).append(' ').append(board.totalCharges()).append(' ');
        for (int trunk = 0; trunk < board.trunks(); trunk++) {
            text.append(Boards.trunk(board, trunk)).append('@').append(board.minutesOn(trunk)).append(' ');
        }
        for (int number = 0; number < board.subscribers(); number++) {
            text.append(board.home(number)).append('/').append(board.tariff(number));
            text.append('=').append(board.bill(number)).append(' ');
            if (board.isTalking(number)) {
                text.append('[').append(Boards.route(board, number)).append("] ");
            }
        }
        return text.append(Boards.calls(board)).toString();
    }

    private static void eightLatest() {
        Switchboard board = new Switchboard();
        CHECK.refused("undo of nothing", IllegalStateException.class, board::undo);
        board.addSwitch();
        board.addSwitch();
        CHECK.equal("one is left", board.undo(), 1);
        CHECK.equal("none is left", board.undo(), 0);
        CHECK.refused("undo of nothing more", IllegalStateException.class, board::undo);
        CHECK.equal("switches", board.switches(), 0);
        for (int number = 0; number < 8; number++) {
            board.addSwitch();
        }
        board.addSubscriber(0, 0);
        for (int left = 7; left >= 0; left--) {
            CHECK.equal("undo of nine", board.undo(), left);
        }
        CHECK.equal("the ninth stays", board.switches(), 1);
        CHECK.equal("no subscribers", board.subscribers(), 0);
        CHECK.refused("undo of the ninth", IllegalStateException.class, board::undo);
    }

    private static void newChangeAfterUndo() {
        Switchboard board = Boards.withSwitches(3);
        board.undo();
        board.undo();
        board.addSubscriber(0, 1);
        CHECK.equal("undo of the new change", board.undo(), 1);
        CHECK.equal("no subscribers", board.subscribers(), 0);
        CHECK.equal("one switch", board.switches(), 1);
        CHECK.equal("undo of the old change", board.undo(), 0);
        CHECK.equal("no switches", board.switches(), 0);
        Switchboard other = Boards.withSwitches(8);
        other.pass(1);
        other.undo();
        other.undo();
        other.undo();
        CHECK.equal("six switches", other.switches(), 6);
        for (int minute = 1; minute <= 3; minute++) {
            other.pass(minute);
        }
        CHECK.equal("they are eight again", other.undo(), 7);
    }

    private static void whatIsNoChange() {
        Switchboard board = Boards.ofTwo();
        board.call(0, 1);
        board.pass(1);
        CHECK.refused("addTrunk", IllegalArgumentException.class, () -> board.addTrunk(0, 0, 5));
        CHECK.refused("addSubscriber", IndexOutOfBoundsException.class, () -> board.addSubscriber(5, 5));
        CHECK.refused("call", IllegalStateException.class, () -> board.call(0, 1));
        CHECK.refused("hangUp", IllegalStateException.class, () -> board.hangUp(2));
        CHECK.refused("cut", IndexOutOfBoundsException.class, () -> board.cut(5));
        CHECK.refused("mend", IllegalStateException.class, () -> board.mend(0));
        CHECK.refused("pass", IllegalArgumentException.class, () -> board.pass(0));
        CHECK.refused("run", IllegalArgumentException.class, board::run);
        board.type('w');
        board.save();
        board.writeCalls();
        board.isConsistent();
        CHECK.equal("undo takes the pass", board.undo(), 7);
        CHECK.equal("minutes", board.minutes(0), 0);
        CHECK.equal("undo takes the call", board.undo(), 6);
        CHECK.equal("calls", board.calls(), 0);
    }

    private static void whatStays() {
        Switchboard board = Boards.ofTwo();
        board.call(0, 1);
        CHECK.refused("busy", IllegalStateException.class, () -> board.call(0, 2));
        board.writeCalls();
        Boards.type(board, "wai");
        board.undo();
        CHECK.equal("blocked calls stay", board.blockedCalls(), 1);
        CHECK.equal("the line stays", Boards.line(board, 5), "0>1:0");
        CHECK.equal("the buffer stays", board.type('t'), 4);
        CHECK.equal("and is a program", board.run(), 1);
        board.save();
        board.call(2, 3);
        CHECK.refused("busy", IllegalStateException.class, () -> board.call(4, 3));
        Boards.type(board, "cut ");
        board.restore();
        CHECK.equal("restore keeps blocked calls", board.blockedCalls(), 2);
        CHECK.equal("restore keeps the line", Boards.line(board, 5), "0>1:0");
        CHECK.equal("restore keeps the buffer", board.type('2'), 5);
        CHECK.equal("which is a program", board.run(), 1);
        CHECK.yes("it did cut", board.isCut(2));
    }

    // Promises 50 and 51
    private static void saveAndRestore() {
        Switchboard board = Boards.ofTwo();
        CHECK.refused("nothing was saved", IllegalStateException.class, board::restore);
        board.call(0, 1);
        board.pass(4);
        String before = picture(board);
        CHECK.equal("save", board.save(), 6);
        board.hangUp(0);
        board.addSubscriber(1, 1);
        board.cut(1);
        board.addTrunk(1, 0, 4);
        board.addSwitch();
        CHECK.equal("restore", board.restore(), 6);
        CHECK.equal("all after restore", picture(board), before);
        CHECK.refused("no change can be undone", IllegalStateException.class, board::undo);
        board.addSubscriber(1, 1);
        CHECK.equal("the next one can", board.undo(), 0);
        CHECK.equal("it is undone", picture(board), before);
        board.pass(1);
        CHECK.equal("it stays saved", board.restore(), 6);
        CHECK.equal("all after the second restore", picture(board), before);
        board.addSubscriber(0, 0);
        CHECK.equal("a second save", board.save(), 7);
        board.undo();
        CHECK.equal("undo after save", board.subscribers(), 6);
        CHECK.equal("restore of the second save", board.restore(), 7);
        CHECK.equal("subscribers", board.subscribers(), 7);
        CHECK.equal("a new object is saved", new Switchboard().save(), 0);
    }

    /** What was undone leaves nothing behind in what is added at its place. */
    private static void rowsStartAnew() {
        Switchboard board = Boards.withSwitches(2);
        board.save();
        board.addTrunk(0, 1, 5);
        board.addSubscriber(0, 1);
        board.addSubscriber(1, 1);
        board.call(0, 1);
        board.pass(9);
        board.hangUp(0);
        board.cut(0);
        board.restore();
        board.addTrunk(1, 0, 6);
        board.addSubscriber(0, 1);
        board.addSubscriber(1, 1);
        CHECK.equal("minutesOn a new trunk", board.minutesOn(0), 0);
        CHECK.no("isCut of a new trunk", board.isCut(0));
        CHECK.equal("bill of a new subscriber", board.bill(0), 0);
        board.call(1, 0);
        CHECK.equal("minutes of a new call", board.minutes(0), 0);
    }

    /** What was undone comes back by restore, also when something else took its place meanwhile. */
    private static void rowsComeBack() {
        Switchboard board = Boards.withSwitches(3);
        board.addTrunk(0, 1, 5);
        board.addTrunk(0, 1, 6);
        board.addSubscriber(1, 2);
        board.addSubscriber(0, 1);
        board.call(1, 0);
        String before = picture(board);
        board.save();
        for (int change = 0; change < 5; change++) {
            board.undo();
        }
        CHECK.equal("all is undone", picture(board), "3 0 ");
        board.addTrunk(2, 1, 9);
        board.addTrunk(1, 2, 8);
        board.addSubscriber(2, 1);
        board.addSubscriber(2, 0);
        board.addSubscriber(0, 2);
        board.call(1, 0);
        board.restore();
        CHECK.equal("all is back", picture(board), before);
    }
}
