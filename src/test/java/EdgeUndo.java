import java.util.function.Consumer;
import java.util.function.Supplier;

/** Boundary sentences about refusals in general and about undo and snapshots: promises 49 to 51. */
final class EdgeUndo {
    private static final Check CHECK = Edge.CHECK;

    private EdgeUndo() {
    }

    static void tell() {
        Edge.at(Edge.TERMS, "A method that throws an exception changes nothing, except that call() records a blocked "
                + "call, and that run() empties the program buffer and records a syntax error or a failed command "
                + "and a blocked call.", EdgeUndo::refusalsInARow);
        Edge.at(Edge.TERMS, "If several conditions for an exception hold, the exception that is listed first is "
                + "thrown.",
                EdgeUndo::listedFirst);
        Edge.at(Edge.TERMS, "The 8 latest changes can be undone.", EdgeUndo::eightLatest);
        Edge.at(Edge.TERMS, "A change is a successful call of addSwitch, addTrunk, addSubscriber, call, hangUp, cut, "
                + "mend, pass or run.", EdgeUndo::changes);
        Edge.at(Edge.TERMS, "The state that is undone, saved and restored consists of the network, the subscribers "
                + "with their bills, the calls and the statistics.", EdgeUndo::wholeState);
        Edge.at(Edge.TERMS, "The blocked calls, the program buffer, the error position, the failed command and the "
                + "output line are not part of it.", EdgeUndo::notPartOfIt);
        Edge.at(49, "Undoes the latest change that was not undone.", EdgeUndo::latestNotUndone);
        Edge.at(49, "Returns the number of changes that can still be undone.", EdgeUndo::stillUndone);
        Edge.at(49, "Throws `IllegalStateException` if no change can be undone", EdgeUndo::nothingToUndo);
        Edge.at(50, "Saves the state in place of the state that was saved before.", EdgeUndo::savedInPlace);
        Edge.at(50, "Returns the number of subscribers.", EdgeUndo::saveAnswers);
        Edge.at(51, "Restores the saved state, which stays saved.", EdgeUndo::staysSaved);
        Edge.at(51, "Afterwards no change can be undone.", EdgeUndo::noneAfterRestore);
        Edge.at(51, "Returns the number of subscribers.", EdgeUndo::restoreAnswers);
        Edge.at(51, "Throws `IllegalStateException` if no state was saved", EdgeUndo::nothingSaved);
    }

    private static Switchboard fullOf(int changes) {
        Switchboard board = Boards.ofTwo();
        board.save();
        board.restore();
        for (int change = 0; change < changes; change++) {
            board.pass(1);
        }
        return board;
    }

    // The terms

    private static void refusalsInARow() {
        Consumer<Switchboard> refusals = board -> {
            Boards.attempt(board, each -> each.addTrunk(0, 0, 1));
            Boards.attempt(board, each -> each.addSubscriber(0, 3));
            Boards.attempt(board, each -> each.cut(3));
            Boards.attempt(board, each -> each.mend(0));
            Boards.attempt(board, each -> each.hangUp(1));
            Boards.attempt(board, each -> each.pass(61));
            Boards.attempt(board, each -> each.call(7, 0));
            Boards.attempt(board, each -> each.charAt(-1));
            Boards.attempt(board, each -> each.writeTrunk(6));
        };
        Trace before = new Trace(Boards::rich);
        Trace after = new Trace(Boards.richAnd(refusals));
        CHECK.equal("the state", after.states, before.states);
        CHECK.equal("the buffer", after.buffer, before.buffer);
        CHECK.equal("the blocked calls", after.blocked, before.blocked);
        CHECK.equal("the line", after.line, before.line);
        Supplier<Switchboard> many = Boards.richAnd(board -> {
            for (int turn = 0; turn < 12; turn++) {
                Boards.attempt(board, each -> each.call(6, 1));
                Boards.attempt(board, each -> each.call(6, 2));
            }
        });
        CHECK.equal("the state after blocked calls", new Trace(many).states, before.states);
        CHECK.equal("the blocked calls themselves", new Trace(many).blocked, "6r1 6b2 6r1 6b2 6r1 6b2 6r1 6b2");
    }

    private static void listedFirst() {
        Edge.refused("addTrunk: index, same", Edge.INDEX, Boards::rich, board -> board.addTrunk(4, 4, 5));
        Edge.refused("addTrunk: index, length", Edge.INDEX, Boards::rich, board -> board.addTrunk(0, 4, 0));
        Edge.refused("addTrunk: index, full", Edge.INDEX, Boards::full, board -> board.addTrunk(8, 0, 5));
        Edge.refused("addTrunk: index, length, full", Edge.INDEX, Boards::full, board -> board.addTrunk(-1, -1, 21));
        Edge.refused("addTrunk: same, full", Edge.ARGUMENT, Boards::full, board -> board.addTrunk(7, 7, 5));
        Edge.refused("addTrunk: length, full", Edge.ARGUMENT, Boards::full, board -> board.addTrunk(0, 7, 21));
        Edge.refused("addSubscriber: index, tariff", Edge.INDEX, Boards::rich, board -> board.addSubscriber(4, 3));
        Edge.refused("addSubscriber: index, full", Edge.INDEX, Boards::full, board -> board.addSubscriber(8, 0));
        Edge.refused("addSubscriber: all", Edge.INDEX, Boards::full, board -> board.addSubscriber(-1, -1));
        Edge.refused("addSubscriber: tariff, full", Edge.ARGUMENT, Boards::full, board -> board.addSubscriber(0, 3));
        Edge.refused("call: index, same", Edge.INDEX, Boards::rich, board -> board.call(7, 7));
        Edge.refused("call: index, busy caller", Edge.INDEX, Boards::rich, board -> board.call(0, 7));
        Edge.refused("call: index, busy callee", Edge.INDEX, Boards::rich, board -> board.call(-1, 4));
        Edge.refused("call: same, busy", Edge.ARGUMENT, Boards::rich, board -> board.call(0, 0));
        Edge.refusedAndRecorded("call: busy, no route", Edge.STATE, "0b1", Boards::rich, board -> board.call(0, 1));
        Edge.refusedAndRecorded("call: no route, busy", Edge.STATE, "1b0", Boards::rich, board -> board.call(1, 0));
        Edge.refused("otherEnd: index, no end", Edge.INDEX, Boards::rich, board -> board.otherEnd(6, 4));
        Edge.refused("userOf: index, no user", Edge.INDEX, Boards::rich, board -> board.userOf(6));
        Edge.refused("routeLength: index, no route", Edge.INDEX, Boards::rich, board -> board.routeLength(0, 4));
        Edge.refused("by relaxation: index, no route", Edge.INDEX, Boards::rich,
                board -> board.routeLengthByRelaxation(4, 0));
        Edge.refused("disjointRoutes: index, same", Edge.INDEX, Boards::rich, board -> board.disjointRoutes(4, 4));
        Edge.refused("minimalCut: index, same", Edge.INDEX, Boards::rich, board -> board.minimalCut(-1, -1));
        Edge.refused("partner: index, silent", Edge.INDEX, Boards::rich, board -> board.partner(7));
        Edge.refused("routeTrunk: index, no index", Edge.INDEX, Boards::rich, board -> board.routeTrunk(7, -1));
        Edge.refused("routeTrunk: silent, no index", Edge.ELEMENT, Boards::rich, board -> board.routeTrunk(1, -1));
        Switchboard board = Boards.full();
        Boards.type(board, "switch;call 0>1;x");
        CHECK.refused("run: no program, a command that fails", Edge.ARGUMENT, board::run);
        CHECK.refused("no command failed", Edge.ELEMENT, board::failedCommand);
        CHECK.equal("nor is a call recorded", board.blockedCalls(), 0);
    }

    private static void eightLatest() {
        int[] counts = {1, 7, 8, 9, 15, 16, 17, 100};
        for (int count : counts) {
            Switchboard board = fullOf(count);
            board.addSubscriber(0, 0);
            int kept = Math.min(count + 1, 8);
            for (int left = kept - 1; left >= 0; left--) {
                CHECK.equal("undo after " + (count + 1) + " changes", board.undo(), left);
            }
            CHECK.refused("one more", Edge.STATE, board::undo);
            CHECK.equal("the latest is undone", board.subscribers(), 6);
        }
        Switchboard board = Boards.withSwitches(2);
        board.addTrunk(0, 1, 1);
        board.addSubscriber(0, 0);
        board.addSubscriber(1, 0);
        board.call(0, 1);
        for (int minute = 1; minute <= 20; minute++) {
            board.pass(1);
        }
        for (int step = 1; step <= 8; step++) {
            board.undo();
            CHECK.equal("minutes after undo " + step, board.minutes(0), 20 - step);
        }
        CHECK.refused("the ninth", Edge.STATE, board::undo);
        CHECK.equal("what is older stays", board.minutes(0), 12);
    }

    private static void checkChange(String name, Consumer<Switchboard> change) {
        Trace before = new Trace(Boards::rich);
        Switchboard board = Boards.rich();
        String picture = Trace.picture(board);
        change.accept(board);
        CHECK.equal("undo of " + name, board.undo(), 7);
        CHECK.equal("the state after undo of " + name, Trace.picture(board), picture);
        Supplier<Switchboard> undone = Boards.richAnd(each -> {
            change.accept(each);
            each.undo();
        });
        CHECK.equal("the blocked calls after undo of " + name, new Trace(undone).blocked, before.blocked);
    }

    private static void checkNoChange(String name, Consumer<Switchboard> call) {
        CHECK.equal(name + " is no change", new Trace(Boards.richAnd(call)).states, new Trace(Boards::rich).states);
    }

    private static void changes() {
        checkChange("addSwitch", Switchboard::addSwitch);
        checkChange("addTrunk", board -> board.addTrunk(0, 1, 1));
        checkChange("addSubscriber", board -> board.addSubscriber(0, 0));
        checkChange("call", board -> board.call(1, 5));
        checkChange("hangUp", board -> board.hangUp(3));
        checkChange("cut of a free trunk", board -> board.cut(0));
        checkChange("cut that ends a call", board -> board.cut(1));
        checkChange("mend", board -> board.mend(3));
        checkChange("pass", board -> board.pass(1));
        checkChange("run of one command", board -> {
            board.type('h');
            board.run();
        });
        checkChange("run of three commands", board -> Boards.run(board, "h;hang 0;wait 9"));
        Switchboard empty = new Switchboard();
        empty.pass(60);
        CHECK.equal("a pass without calls", empty.undo(), 0);
        Boards.run(empty, "wait");
        CHECK.equal("a run without calls", empty.undo(), 0);
        checkNoChange("type", board -> board.type(' '));
        checkNoChange("writeCalls", Switchboard::writeCalls);
        checkNoChange("writeTrunk", board -> board.writeTrunk(0));
        checkNoChange("routeLength", board -> board.routeLength(0, 1));
        checkNoChange("minimalCut", board -> board.minimalCut(0, 1));
        checkNoChange("isConsistent", Switchboard::isConsistent);
        checkNoChange("a blocked call", board -> Boards.attempt(board, each -> each.call(6, 1)));
        checkNoChange("a failed run", board -> Boards.attempt(board, each -> Boards.run(each, "h;cut 3")));
        checkNoChange("no program", board -> Boards.attempt(board, Switchboard::run));
        Switchboard saved = fullOf(3);
        saved.save();
        CHECK.equal("save is no change", saved.undo(), 2);
    }

    /** What is done is undone or restored by what takes it back. */
    private static void checkBack(String name, Supplier<Switchboard> maker, Consumer<Switchboard> there,
            Consumer<Switchboard> back) {
        Switchboard board = maker.get();
        there.accept(board);
        String before = Trace.picture(maker.get());
        CHECK.no(name + " changes something", Trace.picture(board).equals(before));
        Switchboard again = maker.get();
        again.save();
        there.accept(again);
        back.accept(again);
        CHECK.equal(name, Trace.picture(again), before);
    }

    private static void undoTimes(Switchboard board, int times) {
        for (int step = 0; step < times; step++) {
            board.undo();
        }
    }

    private static Switchboard fullForAnHour() {
        Switchboard board = Boards.full();
        board.pass(60);
        return board;
    }

    private static void wholeState() {
        Consumer<Switchboard> much = board -> {
            Boards.run(board, "h;mend 3;mend 4;trunk 4-0=1;user 4/1;cut 1;call 7>1");
            board.pass(60);
            board.hangUp(0);
        };
        checkBack("much undone", Boards::rich, much, board -> undoTimes(board, 3));
        checkBack("much restored", Boards::rich, much, Switchboard::restore);
        Consumer<Switchboard> hangUps = board -> {
            for (int caller = 0; caller < 5; caller++) {
                board.hangUp(caller);
            }
        };
        checkBack("five calls undone", EdgeUndo::fullForAnHour, hangUps, board -> undoTimes(board, 5));
        checkBack("five calls restored", EdgeUndo::fullForAnHour, hangUps, Switchboard::restore);
        Supplier<Switchboard> ended = () -> {
            Switchboard board = fullForAnHour();
            hangUps.accept(board);
            return board;
        };
        checkBack("a call in the place of another undone", ended, board -> board.call(9, 0), Switchboard::undo);
        checkBack("a cut undone", EdgeUndo::fullForAnHour, board -> board.cut(0), Switchboard::undo);
    }

    private static void checkKept(String name, Consumer<Switchboard> back) {
        Consumer<Switchboard> use = board -> {
            Boards.attempt(board, each -> each.call(6, 1));
            Boards.attempt(board, each -> Boards.run(each, "x"));
            Boards.attempt(board, each -> Boards.run(each, "wait;wait;cut 3"));
            Boards.attempt(board, each -> Boards.run(each, "wait;cut!"));
            board.pass(1);
            board.writeCalls();
            Boards.type(board, "switc");
        };
        Trace before = new Trace(Boards.richAnd(use));
        Trace after = new Trace(Boards.richAnd(board -> {
            use.accept(board);
            back.accept(board);
        }));
        CHECK.equal(name + ": the blocked calls", after.blocked, before.blocked);
        CHECK.equal(name + ": the error position", after.errorPosition, "8");
        CHECK.equal(name + ": the failed command", after.failedCommand, "2");
        CHECK.equal(name + ": the line", after.line, before.line);
        CHECK.equal(name + ": the buffer", after.buffer, "type 6, run 1, error 8, switches 5");
    }

    private static void notPartOfIt() {
        checkKept("undo", Switchboard::undo);
        checkKept("undo of many", board -> {
            for (int step = 0; step < 8; step++) {
                board.undo();
            }
        });
        checkKept("restore", Switchboard::restore);
        checkKept("save and restore", board -> {
            board.save();
            board.restore();
        });
    }

    // Promise 49

    private static void latestNotUndone() {
        Switchboard board = new Switchboard();
        board.addSwitch();
        board.addSubscriber(0, 0);
        board.addSubscriber(0, 1);
        board.addSwitch();
        board.undo();
        CHECK.equal("the latest: a switch", board.switches(), 1);
        CHECK.equal("no subscriber", board.subscribers(), 2);
        board.undo();
        CHECK.equal("then a subscriber", board.subscribers(), 1);
        board.addTrunk(0, board.addSwitch(), 7);
        board.undo();
        CHECK.equal("a new change is the latest", board.trunks(), 0);
        CHECK.equal("the one before it stays", board.switches(), 2);
        board.undo();
        CHECK.equal("until it is undone", board.switches(), 1);
        board.undo();
        CHECK.equal("then the one before what was undone", board.subscribers(), 0);
        CHECK.equal("the last", board.undo(), 0);
        CHECK.equal("all is undone", board.switches(), 0);
    }

    private static void stillUndone() {
        Switchboard board = new Switchboard();
        board.addSwitch();
        CHECK.equal("of one", board.undo(), 0);
        Switchboard eight = fullOf(8);
        CHECK.equal("of eight", eight.undo(), 7);
        CHECK.equal("of seven", eight.undo(), 6);
        eight.pass(1);
        CHECK.equal("of seven again", eight.undo(), 6);
        for (int change = 0; change < 5; change++) {
            eight.pass(1);
        }
        CHECK.equal("of nine, eight are kept", eight.undo(), 7);
        Switchboard turns = fullOf(0);
        for (int turn = 0; turn < 20; turn++) {
            turns.pass(1);
            turns.pass(2);
            CHECK.equal("turn " + turn, turns.undo(), Math.min(turn + 1, 7));
        }
    }

    private static void nothingToUndo() {
        Edge.refused("an empty board", Edge.STATE, Switchboard::new, Switchboard::undo);
        Edge.refused("all undone", Edge.STATE, () -> {
            Switchboard board = Boards.withSwitches(1);
            board.undo();
            return board;
        }, Switchboard::undo);
        Edge.refused("eight undone", Edge.STATE, Boards.richAnd(board -> {
            for (int step = 0; step < 8; step++) {
                board.undo();
            }
        }), Switchboard::undo);
        Edge.refused("restored", Edge.STATE, Boards.richAnd(Switchboard::restore), Switchboard::undo);
        Edge.refused("only refused calls", Edge.STATE, () -> {
            Switchboard board = new Switchboard();
            Boards.attempt(board, each -> each.pass(0));
            Boards.attempt(board, each -> each.cut(0));
            Boards.attempt(board, Switchboard::run);
            return board;
        }, Switchboard::undo);
    }

    // Promises 50 and 51

    private static void savedInPlace() {
        Switchboard board = new Switchboard();
        board.save();
        board.addSwitch();
        board.addSubscriber(0, 2);
        board.save();
        board.addSubscriber(0, 1);
        CHECK.equal("the second state", board.restore(), 1);
        CHECK.equal("its tariff", board.tariff(0), 2);
        Switchboard back = Boards.rich();
        String before = Trace.picture(back);
        back.save();
        back.undo();
        back.save();
        CHECK.equal("the same number", back.restore(), 7);
        CHECK.no("not the first state", Trace.picture(back).equals(before));
    }

    private static void saveAnswers() {
        CHECK.equal("none", new Switchboard().save(), 0);
        CHECK.equal("some", Boards.rich().save(), 7);
        CHECK.equal("all", Boards.full().save(), 10);
    }

    private static void staysSaved() {
        Supplier<Switchboard> saved = () -> {
            Switchboard board = fullForAnHour();
            board.save();
            return board;
        };
        checkBack("three times", saved, board -> {
            for (int turn = 0; turn < 3; turn++) {
                board.restore();
                board.pass(60);
                board.hangUp(turn);
                board.cut(4);
            }
        }, Switchboard::restore);
        checkBack("also where others took the places", EdgeUndo::fewInPlace, board -> {
            undoTimes(board, 4);
            board.addTrunk(2, 0, 9);
            board.addSubscriber(2, 0);
            board.addSubscriber(2, 0);
            board.call(0, 1);
        }, Switchboard::restore);
        checkBack("undo leaves it", () -> Boards.withSwitches(3), board -> undoTimes(board, 2), Switchboard::restore);
        checkBack("an empty state", Switchboard::new,
                board -> Boards.run(board, "switch;user 0/0;user 0/0;call 0>1"), Switchboard::restore);
    }

    private static Switchboard fewInPlace() {
        Switchboard board = Boards.withSwitches(3);
        board.addTrunk(0, 1, 5);
        board.addSubscriber(1, 2);
        board.addSubscriber(0, 1);
        board.call(1, 0);
        return board;
    }

    private static void noneAfterRestore() {
        Switchboard board = fullOf(20);
        board.restore();
        CHECK.refused("undo at once", Edge.STATE, board::undo);
        for (int count = 1; count <= 8; count++) {
            board.pass(1);
        }
        for (int left = 7; left >= 0; left--) {
            CHECK.equal("new changes can be undone", board.undo(), left);
        }
        CHECK.refused("but not what is older", Edge.STATE, board::undo);
    }

    private static void restoreAnswers() {
        Switchboard none = Boards.withSwitches(1);
        none.save();
        none.addSubscriber(0, 0);
        CHECK.equal("none", none.restore(), 0);
        CHECK.equal("some", Boards.rich().restore(), 7);
        Switchboard all = Boards.full();
        all.save();
        all.undo();
        CHECK.equal("all", all.restore(), 10);
    }

    private static void nothingSaved() {
        Edge.refused("an empty board", Edge.STATE, Switchboard::new, Switchboard::restore);
        Edge.refused("a full one", Edge.STATE, Boards::full, Switchboard::restore);
        Edge.inside("an empty state that was saved", Edge.STATE, () -> {
            Switchboard board = new Switchboard();
            board.save();
            return board;
        }, Switchboard::restore);
    }
}
