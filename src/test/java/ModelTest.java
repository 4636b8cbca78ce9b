import java.util.Random;

/** Promises 1 to 51: long runs of calls by chance, always the same ones, against the model. */
public final class ModelTest {
    private static final Check CHECK = new Check("ModelTest");
    private static final int RUNS = 1500;
    private static final int CALLS = 512;
    private static final int[] WILD = {Integer.MIN_VALUE, -33, -1, 8, 10, 16, 21, 32, 61, Integer.MAX_VALUE};
    private static final String[] ENDS = {"", ";", " ", "5", "x", ";c", ";cu", ";wait ", ";trunk 0-", "\u0000"};

    private interface Call {
        double answer();
    }

    private final Random random;
    private final Switchboard board = new Switchboard();
    private final Model model = new Model();
    private final int run;
    // Some runs change much, others ask much.
    private final int patience;
    private String waiting = "";
    private int calls;

    private ModelTest(int run) {
        this.run = run;
        random = new Random(run);
        patience = 1 + random.nextInt(8);
    }

    public static void main(String[] args) {
        for (int run = 0; run < RUNS; run++) {
            new ModelTest(run).play();
        }
        CHECK.end();
    }

    private void play() {
        for (calls = 0; calls < CALLS; calls++) {
            if (!waiting.isEmpty()) {
                typeNext();
            } else if (random.nextInt(10) < patience) {
                change();
            } else {
                ask();
            }
        }
    }

    private void same(String name, Call got, Call want) {
        CHECK.equal("run " + run + ", call " + calls + ", " + name, outcome(got), outcome(want));
    }

    private static String outcome(Call call) {
        try {
            return Double.toString(call.answer());
        } catch (RuntimeException thrown) {
            return thrown.getClass().getName();
        }
    }

    /** Mostly a number that exists, now and then one that does not. */
    private int below(int count) {
        int chance = random.nextInt(40);
        if (chance == 0) {
            return WILD[random.nextInt(WILD.length)];
        }
        return chance == 1 || count == 0 ? count : random.nextInt(count);
    }

    private int oneSwitch() {
        return below(model.all.switches);
    }

    private int oneTrunk() {
        return below(model.all.trunks.size());
    }

    private int oneSubscriber() {
        return below(model.all.subscribers.size());
    }

    private void typeNext() {
        char character = waiting.charAt(0);
        waiting = waiting.substring(1);
        if (character == '\n') {
            same("run", board::run, model::run);
        } else {
            same("type", () -> board.type(character), () -> model.type(character));
        }
    }

    private void change() {
        int a = oneSwitch();
        int b = oneSwitch();
        int trunk = oneTrunk();
        int one = oneSubscriber();
        int other = oneSubscriber();
        int length = random.nextInt(3) == 0 ? below(22) : 1 + random.nextInt(4);
        int tariff = below(3);
        int minutes = 1 + below(60);
        switch (random.nextInt(30)) {
            case 0: case 1: case 2:
                same("addSwitch", board::addSwitch, model::addSwitch);
                break;
            case 3: case 4: case 5: case 6: case 7:
                same("addTrunk", () -> board.addTrunk(a, b, length), () -> model.addTrunk(a, b, length));
                break;
            case 8: case 9: case 10: case 11:
                same("addSubscriber", () -> board.addSubscriber(a, tariff), () -> model.addSubscriber(a, tariff));
                break;
            case 12: case 13: case 14: case 15: case 16:
                same("call", () -> board.call(one, other), () -> model.call(one, other));
                break;
            case 17:
                same("hangUp", () -> board.hangUp(one), () -> model.hangUp(one));
                break;
            case 18: case 19: case 20:
                same("cut", () -> board.cut(trunk) ? 1 : 0, () -> model.cut(trunk));
                break;
            case 21: case 22:
                same("mend", () -> board.mend(trunk), () -> model.mend(trunk));
                break;
            case 23: case 24:
                same("pass", () -> board.pass(minutes), () -> model.pass(minutes));
                break;
            case 25:
                waiting = program();
                break;
            default:
                goBack();
                break;
        }
    }

    private void goBack() {
        switch (random.nextInt(12)) {
            case 0:
                same("save", board::save, model::save);
                break;
            case 1:
                same("restore", board::restore, model::restore);
                break;
            default:
                same("undo", board::undo, model::undo);
                break;
        }
    }

    private String program() {
        StringBuilder text = new StringBuilder();
        int commands = 1 + random.nextInt(5);
        for (int number = 0; number < commands; number++) {
            text.append(number == 0 ? "" : ";").append(command());
        }
        if (random.nextInt(6) == 0) {
            text.append(ENDS[random.nextInt(ENDS.length)]);
        }
        if (random.nextInt(12) == 0) {
            text.setLength(random.nextInt(text.length() + 1));
        }
        if (random.nextInt(12) == 0 && text.length() > 0) {
            text.setCharAt(random.nextInt(text.length()), (char) (random.nextInt(2) == 0 ? 48 : random.nextInt(300)));
        }
        return text.append('\n').toString();
    }

    private int digit(int number) {
        return number < 0 || number > 9 ? random.nextInt(10) : number;
    }

    private int twoDigits(int number) {
        return number < 0 || number > 99 ? random.nextInt(100) : number;
    }

    private String command() {
        switch (random.nextInt(12)) {
            case 0:
                return "switch";
            case 1: case 2:
                return "trunk " + digit(oneSwitch()) + "-" + digit(oneSwitch()) + "=" + twoDigits(1 + below(20));
            case 3:
                return "user " + digit(oneSwitch()) + "/" + digit(below(3));
            case 4: case 5:
                return "call " + digit(oneSubscriber()) + ">" + digit(oneSubscriber());
            case 6:
                return "hang " + digit(oneSubscriber());
            case 7: case 8:
                return "cut " + (random.nextInt(4) == 0 ? "0" + digit(oneTrunk()) : "" + twoDigits(oneTrunk()));
            case 9:
                return "mend " + twoDigits(oneTrunk());
            case 10:
                return "wait";
            default:
                return "wait " + twoDigits(1 + below(60));
        }
    }

    private void ask() {
        switch (random.nextInt(4)) {
            case 0:
                askNetwork(oneTrunk(), oneSwitch(), oneSwitch());
                break;
            case 1:
                askSubscriber(oneSubscriber(), below(4));
                break;
            case 2:
                askCounts(below(8), oneSubscriber());
                break;
            default:
                askLine(oneTrunk(), below(12));
                break;
        }
    }

    private void askNetwork(int trunk, int from, int to) {
        switch (random.nextInt(9)) {
            case 0:
                same("trunkLength", () -> board.trunkLength(trunk), () -> model.trunkLength(trunk));
                break;
            case 1:
                same("otherEnd", () -> board.otherEnd(trunk, from), () -> model.otherEnd(trunk, from));
                break;
            case 2:
                same("isCut", () -> board.isCut(trunk) ? 1 : 0, () -> model.isCut(trunk));
                break;
            case 3:
                same("userOf", () -> board.userOf(trunk), () -> model.userOf(trunk));
                break;
            case 4:
                same("minutesOn", () -> board.minutesOn(trunk), () -> model.minutesOn(trunk));
                break;
            case 5:
                same("routeLength", () -> board.routeLength(from, to), () -> model.routeLength(from, to));
                break;
            case 6:
                same("byRelaxation", () -> board.routeLengthByRelaxation(from, to), () -> model.routeLength(from, to));
                break;
            case 7:
                same("disjointRoutes", () -> board.disjointRoutes(from, to), () -> model.disjointRoutes(from, to));
                break;
            default:
                same("minimalCut", () -> board.minimalCut(from, to), () -> model.disjointRoutes(from, to));
                break;
        }
    }

    private void askSubscriber(int subscriber, int index) {
        switch (random.nextInt(9)) {
            case 0:
                same("home", () -> board.home(subscriber), () -> model.home(subscriber));
                break;
            case 1:
                same("tariff", () -> board.tariff(subscriber), () -> model.tariff(subscriber));
                break;
            case 2:
                same("bill", () -> board.bill(subscriber), () -> model.bill(subscriber));
                break;
            case 3:
                same("isTalking", () -> board.isTalking(subscriber) ? 1 : 0, () -> model.isTalking(subscriber));
                break;
            case 4:
                same("partner", () -> board.partner(subscriber), () -> model.partner(subscriber));
                break;
            case 5:
                same("minutes", () -> board.minutes(subscriber), () -> model.minutes(subscriber));
                break;
            case 6:
                same("routeSize", () -> board.routeSize(subscriber), () -> model.routeSize(subscriber));
                break;
            case 7:
                same("routeTrunk", () -> board.routeTrunk(subscriber, index), () -> model.routeTrunk(subscriber, index));
                break;
            default:
                same("chargeNow", () -> board.chargeNow(subscriber), () -> model.chargeNow(subscriber));
                break;
        }
    }

    private void askCounts(int number, int rank) {
        switch (random.nextInt(14)) {
            case 0:
                same("switches", board::switches, () -> model.all.switches);
                break;
            case 1:
                same("trunks", board::trunks, () -> model.all.trunks.size());
                break;
            case 2:
                same("subscribers", board::subscribers, () -> model.all.subscribers.size());
                break;
            case 3:
                same("calls", board::calls, () -> model.all.talks.size());
                break;
            case 4:
                same("blockedCalls", board::blockedCalls, model::blockedCalls);
                break;
            case 5:
                same("blockedCaller", () -> board.blockedCaller(number), () -> model.blockedPart(number, 0));
                break;
            case 6:
                same("blockedCallee", () -> board.blockedCallee(number), () -> model.blockedPart(number, 1));
                break;
            case 7:
                same("blockedReason", () -> board.blockedReason(number), () -> model.blockedPart(number, 2));
                break;
            case 8:
                same("totalBills", board::totalBills, model::totalBills);
                break;
            case 9:
                same("totalCharges", board::totalCharges, () -> model.all.charged);
                break;
            case 10:
                same("subscriberByBill", () -> board.subscriberByBill(rank), () -> model.subscriberByBill(rank));
                break;
            case 11:
                same("meanCharge", board::meanCharge, model::meanCharge);
                break;
            case 12:
                same("usedShare", board::usedShare, model::usedShare);
                break;
            default:
                same("isConsistent", () -> board.isConsistent() ? 1 : 0, () -> 1);
                break;
        }
    }

    private void askLine(int trunk, int index) {
        switch (random.nextInt(8)) {
            case 0:
                same("writeTrunk", () -> board.writeTrunk(trunk), () -> model.writeTrunk(trunk));
                break;
            case 1:
                same("writeCalls", board::writeCalls, model::writeCalls);
                break;
            case 2:
                same("errorPosition", board::errorPosition, model::errorPosition);
                break;
            case 3:
                same("failedCommand", board::failedCommand, model::failedCommand);
                break;
            default:
                same("charAt", () -> board.charAt(index), () -> model.charAt(index));
                break;
        }
    }
}
