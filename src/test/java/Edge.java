import java.util.ArrayList;
import java.util.List;
import java.util.Map;
import java.util.TreeMap;
import java.util.function.Consumer;
import java.util.function.Supplier;

/** What the tests of the document's boundary sentences share: the sentences told, and the refused calls. */
final class Edge {
    /** Stands for the document's terms, which come before promise 1. */
    static final int TERMS = 0;

    static final Class<IndexOutOfBoundsException> INDEX = IndexOutOfBoundsException.class;
    static final Class<IllegalArgumentException> ARGUMENT = IllegalArgumentException.class;
    static final Class<IllegalStateException> STATE = IllegalStateException.class;
    static final Class<UnsupportedOperationException> UNSUPPORTED = UnsupportedOperationException.class;
    static final Class<java.util.NoSuchElementException> ELEMENT = java.util.NoSuchElementException.class;
    static final Class<ArithmeticException> ARITHMETIC = ArithmeticException.class;

    static final Check CHECK = new Check("EdgeTest");

    private static final Map<Integer, List<String>> TOLD = new TreeMap<>();

    private Edge() {
    }

    /** Tests one sentence, given in the document's own words, of a promise or of the terms. */
    static void at(int promise, String words, Runnable test) {
        TOLD.computeIfAbsent(promise, number -> new ArrayList<>()).add(words);
        CHECK.under((promise == TERMS ? "Terms" : "Promise " + promise) + ", " + words);
        int before = CHECK.asked();
        try {
            test.run();
        } catch (RuntimeException thrown) {
            CHECK.tell("broke off with " + thrown);
        }
        if (CHECK.asked() == before) {
            CHECK.tell("was asked nothing");
        }
    }

    static List<String> told(int promise) {
        return TOLD.getOrDefault(promise, List.of());
    }

    /** A call just inside a limit: something else may refuse it, but not what refuses a call outside. */
    static void inside(String what, Class<? extends RuntimeException> outside, Supplier<Switchboard> maker,
            Consumer<Switchboard> act) {
        Switchboard board = maker.get();
        String thrown = "nothing";
        try {
            act.accept(board);
        } catch (RuntimeException refusal) {
            thrown = refusal.getClass().getSimpleName();
        }
        CHECK.no(what + " throws " + outside.getSimpleName(), thrown.equals(outside.getSimpleName()));
    }

    /** A call that is refused changes nothing at all. */
    static void refused(String what, Class<? extends RuntimeException> due, Supplier<Switchboard> maker,
            Consumer<Switchboard> act) {
        CHECK.equal(what + ": the blocked calls", refusal(what, due, maker, act).blocked, Trace.blocked(maker.get()));
    }

    /** A call that is refused changes nothing but for one more blocked call, such as "0b3". */
    static void refusedAndRecorded(String what, Class<? extends RuntimeException> due, String record,
            Supplier<Switchboard> maker, Consumer<Switchboard> act) {
        CHECK.equal(what + ": the blocked calls", refusal(what, due, maker, act).blocked,
                withRecord(Trace.blocked(maker.get()), record));
    }

    /** Checks all but the blocked calls, and answers the trace after the refusal. */
    private static Trace refusal(String what, Class<? extends RuntimeException> due, Supplier<Switchboard> maker,
            Consumer<Switchboard> act) {
        Switchboard board = maker.get();
        CHECK.refused(what, due, () -> act.accept(board));
        Trace before = new Trace(maker);
        Trace after = new Trace(() -> after(maker, act));
        CHECK.equal(what + ": the state", after.states, before.states);
        CHECK.equal(what + ": the program buffer", after.buffer, before.buffer);
        CHECK.equal(what + ": errorPosition", after.errorPosition, before.errorPosition);
        CHECK.equal(what + ": failedCommand", after.failedCommand, before.failedCommand);
        CHECK.equal(what + ": the line", after.line, before.line);
        return after;
    }

    /** A text that is refused as no program changes nothing but the error position. */
    static void notProgram(String text, int error, Supplier<Switchboard> maker) {
        Trace after = programRefusal(text, ARGUMENT, maker);
        Trace before = new Trace(maker);
        CHECK.equal("\"" + text + "\": errorPosition", after.errorPosition, String.valueOf(error));
        CHECK.equal("\"" + text + "\": failedCommand", after.failedCommand, before.failedCommand);
        CHECK.equal("\"" + text + "\": the blocked calls", after.blocked, before.blocked);
    }

    /** A program that fails changes nothing but the failed command, and the blocked calls by a record or none. */
    static void fails(String text, int command, String record, Supplier<Switchboard> maker) {
        Trace after = programRefusal(text, UNSUPPORTED, maker);
        Trace before = new Trace(maker);
        CHECK.equal("\"" + text + "\": failedCommand", after.failedCommand, String.valueOf(command));
        CHECK.equal("\"" + text + "\": errorPosition", after.errorPosition, before.errorPosition);
        CHECK.equal("\"" + text + "\": the blocked calls", after.blocked,
                record.isEmpty() ? before.blocked : withRecord(before.blocked, record));
    }

    /** The maker's boards have an empty program buffer, as it is after the refusal too. */
    private static Trace programRefusal(String text, Class<? extends RuntimeException> due,
            Supplier<Switchboard> maker) {
        Switchboard board = maker.get();
        Boards.type(board, text);
        CHECK.refused("\"" + text + "\"", due, board::run);
        CHECK.equal("\"" + text + "\": characters with the next one", board.type('x'), 1);
        Trace before = new Trace(maker);
        Trace after = new Trace(() -> after(maker, each -> Boards.run(each, text)));
        CHECK.equal("\"" + text + "\": the state", after.states, before.states);
        CHECK.equal("\"" + text + "\": the line", after.line, before.line);
        return after;
    }

    private static Switchboard after(Supplier<Switchboard> maker, Consumer<Switchboard> act) {
        Switchboard board = maker.get();
        Boards.attempt(board, act);
        return board;
    }

    private static String withRecord(String blocked, String record) {
        if (blocked.isEmpty()) {
            return record;
        }
        boolean full = blocked.split(" ").length == 8;
        return (full ? blocked.substring(blocked.indexOf(' ') + 1) : blocked) + " " + record;
    }
}
