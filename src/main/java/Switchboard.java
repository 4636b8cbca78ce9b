import java.util.Arrays;
import java.util.NoSuchElementException;

/**
 * A switchboard for telephone calls: switches connected by trunks, subscribers who call each other
 * over the best free routes, bills by tariffs, programs of commands, undo and a saved state.
 */
public final class Switchboard {

    private static final int MOST_SWITCHES = 8;
    private static final int MOST_TRUNKS = 16;
    private static final int MOST_LENGTH = 20;
    private static final int MOST_SUBSCRIBERS = 10;
    private static final int MOST_TARIFF = 2;
    private static final int MOST_MINUTES = 60;
    private static final int MOST_BLOCKED = 8;
    private static final int MOST_UNDONE = 8;
    private static final int MOST_CHARACTERS = 60;

    // A call has two subscribers of its own.
    private static final int MOST_CALLS = 5;
    // A route visits no switch twice.
    private static final int MOST_HOPS = 7;
    // Sixty characters hold twelve commands and the mere start of a thirteenth.
    private static final int MOST_COMMANDS = 13;

    private static final int FLAT_CHARGE = 25;

    // Stands where there is no index, number or position.
    private static final int NOTHING = -1;
    // Farther than any route leads.
    private static final int FAR = 1000000;
    // More than the trunks of a route, so that a shorter route goes before one with fewer trunks.
    private static final int LENGTH_UNIT = 8;

    // The kinds of change, each of which is a command of a program too.
    private static final int ADD_SWITCH = 0;
    private static final int ADD_TRUNK = 1;
    private static final int ADD_SUBSCRIBER = 2;
    private static final int START_CALL = 3;
    private static final int HANG_UP = 4;
    private static final int CUT_TRUNK = 5;
    private static final int MEND_TRUNK = 6;
    private static final int LET_PASS = 7;

    // What forbids a change. A program learns from it that a command fails, without an exception.
    private static final int FINE = 0;
    private static final int NO_SUCH_NUMBER = 1;
    private static final int BAD_ARGUMENT = 2;
    private static final int BAD_STATE = 3;
    private static final int NO_ROUTE = 4;

    private final State now;
    private final State saved;
    private final State beforeRun;
    private final History history;
    private final BlockedCalls blocked;
    private final Program program;
    private final Router router;
    private final StringBuilder line;
    private boolean hasSaved;
    private int lastError;
    private int lastFailure;

    public Switchboard() {
        now = new State();
        saved = new State();
        beforeRun = new State();
        history = new History();
        blocked = new BlockedCalls();
        program = new Program();
        router = new Router();
        line = new StringBuilder();
        hasSaved = false;
        lastError = NOTHING;
        lastFailure = NOTHING;
    }

    // ---- the network

    public int addSwitch() throws IllegalStateException {
        return change(ADD_SWITCH, 0, 0, 0);
    }

    public int addTrunk(int one, int other, int length)
            throws IndexOutOfBoundsException, IllegalArgumentException, IllegalStateException {
        return change(ADD_TRUNK, one, other, length);
    }

    public int addSubscriber(int home, int tariff)
            throws IndexOutOfBoundsException, IllegalArgumentException, IllegalStateException {
        return change(ADD_SUBSCRIBER, home, tariff, 0);
    }

    public boolean cut(int trunk) throws IndexOutOfBoundsException, IllegalStateException {
        return change(CUT_TRUNK, trunk, 0, 0) == 1;
    }

    public int mend(int trunk) throws IndexOutOfBoundsException, IllegalStateException {
        return change(MEND_TRUNK, trunk, 0, 0);
    }

    // ---- calls

    public int call(int caller, int callee)
            throws IndexOutOfBoundsException, IllegalArgumentException, IllegalStateException,
            UnsupportedOperationException {
        return change(START_CALL, caller, callee, 0);
    }

    public int hangUp(int subscriber) throws IndexOutOfBoundsException, IllegalStateException {
        return change(HANG_UP, subscriber, 0, 0);
    }

    public int pass(int minutes) throws IllegalArgumentException {
        return change(LET_PASS, minutes, 0, 0);
    }

    /** Makes a change that can be undone and answers its result, or throws what forbids it. */
    private int change(int kind, int first, int second, int third) {
        refuse(problemOf(kind, first, second, third));
        history.keep(now);
        return perform(kind, first, second, third);
    }

    private static void refuse(int problem) {
        switch (problem) {
            case NO_SUCH_NUMBER:
                throw new IndexOutOfBoundsException("there is no switch, trunk or subscriber of this number");
            case BAD_ARGUMENT:
                throw new IllegalArgumentException("an argument is out of range, or both are the same one");
            case BAD_STATE:
                throw new IllegalStateException("the state of the switchboard does not allow this");
            case NO_ROUTE:
                throw new UnsupportedOperationException("there is no route over free trunks");
            default:
                break;
        }
    }

    /** Tells what forbids a change, or FINE; it changes nothing but the blocked calls. */
    private int problemOf(int kind, int first, int second, int third) {
        switch (kind) {
            case ADD_SWITCH:
                return now.network.switchProblem();
            case ADD_TRUNK:
                return now.network.trunkProblem(first, second, third);
            case ADD_SUBSCRIBER:
                return now.subscriberProblem(first, second);
            case START_CALL:
                return callProblem(first, second);
            case HANG_UP:
                return now.hangUpProblem(first);
            case CUT_TRUNK:
                return now.network.repairProblem(first, false);
            case MEND_TRUNK:
                return now.network.repairProblem(first, true);
            case LET_PASS:
                return first >= 1 && first <= MOST_MINUTES ? FINE : BAD_ARGUMENT;
            default:
                return BAD_ARGUMENT;
        }
    }

    /** Makes a change that nothing forbids and answers what its method returns, true as 1. */
    private int perform(int kind, int first, int second, int third) {
        switch (kind) {
            case ADD_SWITCH:
                return now.network.attachSwitch();
            case ADD_TRUNK:
                return now.network.attachTrunk(first, second, third);
            case ADD_SUBSCRIBER:
                return now.attachSubscriber(first, second);
            case START_CALL:
                return startCall(first, second);
            case HANG_UP:
                return now.endCall(now.callIndexOf(first));
            case CUT_TRUNK:
                return severTrunk(first);
            case MEND_TRUNK:
                return now.network.repairTrunk(first);
            case LET_PASS:
                return now.addMinutes(first);
            default:
                return 0;
        }
    }

    /** Tells what forbids a call, or FINE; a blocked call is recorded. */
    private int callProblem(int caller, int callee) {
        if (!now.hasSubscriber(caller) || !now.hasSubscriber(callee)) {
            return NO_SUCH_NUMBER;
        }
        if (caller == callee) {
            return BAD_ARGUMENT;
        }
        if (now.callIndexOf(caller) != NOTHING || now.callIndexOf(callee) != NOTHING) {
            blocked.enter(caller, callee, 'b');
            return BAD_STATE;
        }
        if (!router.findRoute(now.network, now.freeTrunks(), now.homeOf(caller), now.homeOf(callee))) {
            blocked.enter(caller, callee, 'r');
            return NO_ROUTE;
        }
        return FINE;
    }

    private int startCall(int caller, int callee) {
        router.findRoute(now.network, now.freeTrunks(), now.homeOf(caller), now.homeOf(callee));
        return now.beginCall(caller, callee, router);
    }

    /** Cuts a trunk and answers 1 if a call ends by that, otherwise 0. */
    private int severTrunk(int trunk) {
        now.network.cutTrunks |= bit(trunk);
        int index = now.userIndexOf(trunk);
        if (index == NOTHING) {
            return 0;
        }
        Call call = now.calls[index];
        int usable = (now.freeTrunks() | call.trunkBits()) & ~bit(trunk);
        if (router.findRoute(now.network, usable, now.homeOf(call.caller), now.homeOf(call.callee))) {
            call.takeRoute(router);
            return 0;
        }
        now.endCall(index);
        return 1;
    }

    // ---- properties of the network

    public int switches() {
        return now.network.switchCount;
    }

    public int trunks() {
        return now.network.trunkCount;
    }

    public int trunkLength(int trunk) throws IndexOutOfBoundsException {
        needTrunk(trunk);
        return now.network.lengths[trunk];
    }

    public int otherEnd(int trunk, int end) throws IndexOutOfBoundsException, IllegalArgumentException {
        needTrunk(trunk);
        int across = now.network.acrossFrom(trunk, end);
        if (across == NOTHING) {
            throw new IllegalArgumentException("the trunk does not end at this switch");
        }
        return across;
    }

    public boolean isCut(int trunk) throws IndexOutOfBoundsException {
        needTrunk(trunk);
        return hasBit(now.network.cutTrunks, trunk);
    }

    public int userOf(int trunk) throws IndexOutOfBoundsException, NoSuchElementException {
        needTrunk(trunk);
        int index = now.userIndexOf(trunk);
        if (index == NOTHING) {
            throw new NoSuchElementException("no call uses the trunk");
        }
        return now.calls[index].caller;
    }

    public int minutesOn(int trunk) throws IndexOutOfBoundsException {
        needTrunk(trunk);
        return now.network.carried[trunk];
    }

    private void needTrunk(int trunk) {
        if (!now.network.hasTrunk(trunk)) {
            throw new IndexOutOfBoundsException("there is no such trunk");
        }
    }

    // ---- routes and capacities

    public int routeLength(int from, int to) throws IndexOutOfBoundsException, NoSuchElementException {
        needSwitches(from, to);
        return needLength(router.shortestLength(now.network, now.freeTrunks(), from, to));
    }

    public int routeLengthByRelaxation(int from, int to)
            throws IndexOutOfBoundsException, NoSuchElementException {
        needSwitches(from, to);
        return needLength(router.relaxedLength(now.network, now.freeTrunks(), from, to));
    }

    public int disjointRoutes(int from, int to) throws IndexOutOfBoundsException, IllegalArgumentException {
        needSwitches(from, to);
        needDifferent(from, to);
        return router.countDisjoint(now.network, now.freeTrunks(), from, to);
    }

    public int minimalCut(int from, int to) throws IndexOutOfBoundsException, IllegalArgumentException {
        needSwitches(from, to);
        needDifferent(from, to);
        return router.smallestCut(now.network, now.freeTrunks(), from, to);
    }

    private void needSwitches(int from, int to) {
        if (!now.network.hasSwitch(from) || !now.network.hasSwitch(to)) {
            throw new IndexOutOfBoundsException("there is no such switch");
        }
    }

    private static void needDifferent(int from, int to) {
        if (from == to) {
            throw new IllegalArgumentException("both switches are the same one");
        }
    }

    private static int needLength(int length) {
        if (length == NOTHING) {
            throw new NoSuchElementException("there is no route over free trunks");
        }
        return length;
    }

    // ---- subscribers and calls

    public int subscribers() {
        return now.subscriberCount;
    }

    public int home(int subscriber) throws IndexOutOfBoundsException {
        needSubscriber(subscriber);
        return now.homeOf(subscriber);
    }

    public int tariff(int subscriber) throws IndexOutOfBoundsException {
        needSubscriber(subscriber);
        return now.tariffs[subscriber];
    }

    public int bill(int subscriber) throws IndexOutOfBoundsException {
        needSubscriber(subscriber);
        return now.bills[subscriber];
    }

    public boolean isTalking(int subscriber) throws IndexOutOfBoundsException {
        needSubscriber(subscriber);
        return now.callIndexOf(subscriber) != NOTHING;
    }

    public int partner(int subscriber) throws IndexOutOfBoundsException, NoSuchElementException {
        Call call = needCall(subscriber);
        return call.caller == subscriber ? call.callee : call.caller;
    }

    public int minutes(int subscriber) throws IndexOutOfBoundsException, NoSuchElementException {
        return needCall(subscriber).minutes;
    }

    public int routeSize(int subscriber) throws IndexOutOfBoundsException, NoSuchElementException {
        return needCall(subscriber).routeSize;
    }

    public int routeTrunk(int subscriber, int index) throws IndexOutOfBoundsException, NoSuchElementException {
        Call call = needCall(subscriber);
        if (index < 0 || index >= call.routeSize) {
            throw new NoSuchElementException("the route has no such index");
        }
        return call.route[index];
    }

    public int chargeNow(int subscriber) throws IndexOutOfBoundsException, NoSuchElementException {
        return now.chargeOf(needCall(subscriber));
    }

    public int calls() {
        return now.callCount;
    }

    private void needSubscriber(int subscriber) {
        if (!now.hasSubscriber(subscriber)) {
            throw new IndexOutOfBoundsException("there is no such subscriber");
        }
    }

    private Call needCall(int subscriber) {
        needSubscriber(subscriber);
        int index = now.callIndexOf(subscriber);
        if (index == NOTHING) {
            throw new NoSuchElementException("the subscriber is not talking");
        }
        return now.calls[index];
    }

    // ---- blocked calls

    public int blockedCalls() {
        return blocked.count;
    }

    public int blockedCaller(int number) throws NoSuchElementException {
        needBlocked(number);
        return blocked.callers[number];
    }

    public int blockedCallee(int number) throws NoSuchElementException {
        needBlocked(number);
        return blocked.callees[number];
    }

    public char blockedReason(int number) throws NoSuchElementException {
        needBlocked(number);
        return blocked.reasons[number];
    }

    private void needBlocked(int number) {
        if (number < 0 || number >= blocked.count) {
            throw new NoSuchElementException("there is no such blocked call");
        }
    }

    // ---- statistics

    public long totalBills() {
        return now.sumOfBills();
    }

    public long totalCharges() {
        return now.charged;
    }

    public int subscriberByBill(int rank) throws NoSuchElementException {
        for (int subscriber = 0; subscriber < now.subscriberCount; subscriber++) {
            if (now.rankOf(subscriber) == rank) {
                return subscriber;
            }
        }
        throw new NoSuchElementException("there is no such rank");
    }

    public double meanCharge() throws ArithmeticException {
        if (now.endedCalls == 0) {
            throw new ArithmeticException("no call has ended");
        }
        return (double) now.charged / (double) now.endedCalls;
    }

    public float usedShare() throws ArithmeticException {
        if (now.network.trunkCount == 0) {
            throw new ArithmeticException("there are no trunks");
        }
        return (float) Integer.bitCount(now.usedTrunks()) / (float) now.network.trunkCount;
    }

    public boolean isConsistent() {
        return router.agreesWithItself(now.network, now.freeTrunks())
                && now.sumOfBills() == now.charged
                && now.sharesNoTrunk();
    }

    // ---- output

    public int writeTrunk(int trunk) throws IndexOutOfBoundsException {
        needTrunk(trunk);
        int one = now.network.ones[trunk];
        int other = now.network.others[trunk];
        line.setLength(0);
        line.append(Math.min(one, other)).append('-').append(Math.max(one, other));
        line.append('=').append(now.network.lengths[trunk]);
        if (hasBit(now.network.cutTrunks, trunk)) {
            line.append('x');
        } else if (hasBit(now.usedTrunks(), trunk)) {
            line.append('*');
        }
        return line.length();
    }

    public int writeCalls() {
        line.setLength(0);
        for (int index = 0; index < now.callCount; index++) {
            if (index > 0) {
                line.append(' ');
            }
            Call call = now.calls[index];
            line.append(call.caller).append('>').append(call.callee).append(':').append(call.minutes);
        }
        return line.length();
    }

    public char charAt(int index) throws IndexOutOfBoundsException {
        if (index < 0 || index >= line.length()) {
            throw new IndexOutOfBoundsException("the line has no such index");
        }
        return line.charAt(index);
    }

    // ---- programs

    public int type(char character) throws IllegalStateException {
        if (program.size >= MOST_CHARACTERS) {
            throw new IllegalStateException("the program buffer is full");
        }
        return program.append(character);
    }

    public int run() throws IllegalArgumentException, UnsupportedOperationException {
        int error = program.parse();
        if (error != NOTHING) {
            lastError = error;
            throw new IllegalArgumentException("the text is not a program");
        }
        beforeRun.copyFrom(now);
        int failure = performProgram();
        if (failure != NOTHING) {
            now.copyFrom(beforeRun);
            lastFailure = failure;
            throw new UnsupportedOperationException("a command of the program failed");
        }
        history.keep(beforeRun);
        return program.commandCount;
    }

    public int errorPosition() throws NoSuchElementException {
        if (lastError == NOTHING) {
            throw new NoSuchElementException("every text was a program");
        }
        return lastError;
    }

    public int failedCommand() throws NoSuchElementException {
        if (lastFailure == NOTHING) {
            throw new NoSuchElementException("no command failed");
        }
        return lastFailure;
    }

    /** Executes the commands up to the first that fails and answers its number, or NOTHING. */
    private int performProgram() {
        for (int number = 0; number < program.commandCount; number++) {
            int kind = program.kinds[number];
            int first = program.firsts[number];
            int second = program.seconds[number];
            int third = program.thirds[number];
            if (problemOf(kind, first, second, third) != FINE) {
                return number;
            }
            perform(kind, first, second, third);
        }
        return NOTHING;
    }

    // ---- undo and snapshots

    public int undo() throws IllegalStateException {
        if (history.count == 0) {
            throw new IllegalStateException("no change can be undone");
        }
        history.takeBack(now);
        return history.count;
    }

    public int save() {
        saved.copyFrom(now);
        hasSaved = true;
        return now.subscriberCount;
    }

    public int restore() throws IllegalStateException {
        if (!hasSaved) {
            throw new IllegalStateException("no state was saved");
        }
        now.copyFrom(saved);
        history.forget();
        return now.subscriberCount;
    }

    // ---- sets of small numbers, as the bits of an int

    private static int bit(int number) {
        return 1 << number;
    }

    private static boolean hasBit(int set, int number) {
        return (set >> number & 1) != 0;
    }

    private static void copyRow(int[] from, int[] to) {
        System.arraycopy(from, 0, to, 0, Math.min(from.length, to.length));
    }

    /** The switches and trunks. */
    private static final class Network {
        int switchCount;
        int trunkCount;
        final int[] ones = new int[MOST_TRUNKS];
        final int[] others = new int[MOST_TRUNKS];
        final int[] lengths = new int[MOST_TRUNKS];
        final int[] carried = new int[MOST_TRUNKS];
        int cutTrunks;

        boolean hasSwitch(int number) {
            return number >= 0 && number < switchCount;
        }

        boolean hasTrunk(int trunk) {
            return trunk >= 0 && trunk < trunkCount;
        }

        int switchProblem() {
            return switchCount < MOST_SWITCHES ? FINE : BAD_STATE;
        }

        int trunkProblem(int one, int other, int length) {
            if (!hasSwitch(one) || !hasSwitch(other)) {
                return NO_SUCH_NUMBER;
            }
            if (one == other || length < 1 || length > MOST_LENGTH) {
                return BAD_ARGUMENT;
            }
            return trunkCount < MOST_TRUNKS ? FINE : BAD_STATE;
        }

        /** Tells what forbids to mend a trunk, which must be cut, or to cut it, which must not be. */
        int repairProblem(int trunk, boolean mustBeCut) {
            if (!hasTrunk(trunk)) {
                return NO_SUCH_NUMBER;
            }
            return hasBit(cutTrunks, trunk) == mustBeCut ? FINE : BAD_STATE;
        }

        int attachSwitch() {
            return switchCount++;
        }

        int attachTrunk(int one, int other, int length) {
            int trunk = trunkCount;
            if (trunk >= MOST_TRUNKS) {
                return NOTHING;
            }
            ones[trunk] = one;
            others[trunk] = other;
            lengths[trunk] = length;
            trunkCount++;
            return trunk;
        }

        /** Mends a trunk and answers how many are cut then. */
        int repairTrunk(int trunk) {
            cutTrunks &= ~bit(trunk);
            return Integer.bitCount(cutTrunks);
        }

        /** The switch at the other end of a trunk, or NOTHING if the trunk does not end at this one. */
        int acrossFrom(int trunk, int end) {
            if (trunk < 0 || trunk >= trunkCount) {
                return NOTHING;
            }
            if (ones[trunk] == end) {
                return others[trunk];
            }
            return others[trunk] == end ? ones[trunk] : NOTHING;
        }

        void countMinutes(int trunk, int minutes) {
            if (hasTrunk(trunk)) {
                carried[trunk] += minutes;
            }
        }

        int allTrunks() {
            return bit(trunkCount) - 1;
        }

        void copyFrom(Network from) {
            switchCount = from.switchCount;
            trunkCount = from.trunkCount;
            cutTrunks = from.cutTrunks;
            copyRow(from.ones, ones);
            copyRow(from.others, others);
            copyRow(from.lengths, lengths);
            copyRow(from.carried, carried);
        }
    }

    /** A call that is going on. */
    private static final class Call {
        int caller;
        int callee;
        int minutes;
        int routeSize;
        int routeLength;
        final int[] route = new int[MOST_HOPS];

        boolean isOf(int subscriber) {
            return caller == subscriber || callee == subscriber;
        }

        int trunkBits() {
            int bits = 0;
            for (int index = 0; index < routeSize; index++) {
                bits |= 1 << route[index];
            }
            return bits;
        }

        void takeRoute(Router found) {
            copyRow(found.route, route);
            routeSize = found.routeSize;
            routeLength = found.routeLength;
        }

        void copyFrom(Call from) {
            caller = from.caller;
            callee = from.callee;
            minutes = from.minutes;
            routeSize = from.routeSize;
            routeLength = from.routeLength;
            copyRow(from.route, route);
        }
    }

    /** All that is undone, saved and restored. Rows are copied whole, so that unused places stay 0. */
    private static final class State {
        final Network network = new Network();
        int subscriberCount;
        final int[] homes = new int[MOST_SUBSCRIBERS];
        final int[] tariffs = new int[MOST_SUBSCRIBERS];
        final int[] bills = new int[MOST_SUBSCRIBERS];
        int callCount;
        // In the order in which they were started.
        final Call[] calls = new Call[MOST_CALLS];
        long charged;
        int endedCalls;

        State() {
            for (int index = 0; index < MOST_CALLS; index++) {
                calls[index] = new Call();
            }
        }

        boolean hasSubscriber(int subscriber) {
            return subscriber >= 0 && subscriber < subscriberCount;
        }

        int homeOf(int subscriber) {
            return hasSubscriber(subscriber) ? homes[subscriber] : NOTHING;
        }

        int subscriberProblem(int home, int tariff) {
            if (!network.hasSwitch(home)) {
                return NO_SUCH_NUMBER;
            }
            if (tariff < 0 || tariff > MOST_TARIFF) {
                return BAD_ARGUMENT;
            }
            return subscriberCount < MOST_SUBSCRIBERS ? FINE : BAD_STATE;
        }

        int hangUpProblem(int subscriber) {
            if (!hasSubscriber(subscriber)) {
                return NO_SUCH_NUMBER;
            }
            return callIndexOf(subscriber) != NOTHING ? FINE : BAD_STATE;
        }

        int attachSubscriber(int home, int tariff) {
            int subscriber = subscriberCount;
            if (subscriber >= MOST_SUBSCRIBERS) {
                return NOTHING;
            }
            homes[subscriber] = home;
            tariffs[subscriber] = tariff;
            subscriberCount++;
            return subscriber;
        }

        int callIndexOf(int subscriber) {
            for (int index = 0; index < callCount; index++) {
                if (calls[index].isOf(subscriber)) {
                    return index;
                }
            }
            return NOTHING;
        }

        int userIndexOf(int trunk) {
            for (int index = 0; index < callCount; index++) {
                if (hasBit(calls[index].trunkBits(), trunk)) {
                    return index;
                }
            }
            return NOTHING;
        }

        int usedTrunks() {
            int used = 0;
            for (int index = 0; index < callCount; index++) {
                used |= calls[index].trunkBits();
            }
            return used;
        }

        int freeTrunks() {
            return network.allTrunks() & ~network.cutTrunks & ~usedTrunks();
        }

        /** Starts a call over the route that was found and answers the length of the route. */
        int beginCall(int caller, int callee, Router found) {
            if (callCount >= MOST_CALLS) {
                return NOTHING;
            }
            Call call = calls[callCount];
            call.caller = caller;
            call.callee = callee;
            call.minutes = 0;
            call.takeRoute(found);
            callCount++;
            return call.routeLength;
        }

        int chargeOf(Call call) {
            int tariff = hasSubscriber(call.caller) ? tariffs[call.caller] : 0;
            if (tariff == 0) {
                return FLAT_CHARGE;
            }
            int product = call.minutes * (call.routeLength + 1);
            return tariff == 1 ? product : (product + 1) / 2;
        }

        /** Ends a call, bills its caller and answers the charge. */
        int endCall(int ended) {
            if (ended < 0 || ended >= callCount) {
                return 0;
            }
            int charge = chargeOf(calls[ended]);
            int caller = calls[ended].caller;
            if (hasSubscriber(caller)) {
                bills[caller] += charge;
            }
            charged += charge;
            endedCalls++;
            callCount--;
            for (int index = ended; index < callCount; index++) {
                calls[index].copyFrom(calls[index + 1]);
            }
            return charge;
        }

        /** Lets minutes pass and answers the number of calls. */
        int addMinutes(int minutes) {
            for (int index = 0; index < callCount; index++) {
                Call call = calls[index];
                call.minutes += minutes;
                for (int hop = 0; hop < call.routeSize; hop++) {
                    network.countMinutes(call.route[hop], minutes);
                }
            }
            return callCount;
        }

        long sumOfBills() {
            long sum = 0;
            for (int subscriber = 0; subscriber < subscriberCount; subscriber++) {
                sum += bills[subscriber];
            }
            return sum;
        }

        /** How many subscribers go before this one when they are sorted by their bills. */
        int rankOf(int subscriber) {
            if (!hasSubscriber(subscriber)) {
                return NOTHING;
            }
            int rank = 0;
            for (int rival = 0; rival < subscriberCount; rival++) {
                boolean tie = bills[rival] == bills[subscriber];
                if (bills[rival] > bills[subscriber] || tie && rival < subscriber) {
                    rank++;
                }
            }
            return rank;
        }

        /** Whether no trunk is cut and used, or used by two calls. */
        boolean sharesNoTrunk() {
            int taken = network.cutTrunks;
            for (int index = 0; index < callCount; index++) {
                int bits = calls[index].trunkBits();
                if ((taken & bits) != 0) {
                    return false;
                }
                taken |= bits;
            }
            return true;
        }

        void copyFrom(State from) {
            network.copyFrom(from.network);
            subscriberCount = from.subscriberCount;
            copyRow(from.homes, homes);
            copyRow(from.tariffs, tariffs);
            copyRow(from.bills, bills);
            callCount = from.callCount;
            for (int index = 0; index < MOST_CALLS; index++) {
                calls[index].copyFrom(from.calls[index]);
            }
            charged = from.charged;
            endedCalls = from.endedCalls;
        }
    }

    /** The algorithms on a network, of which only the usable trunks count, given as bits. */
    private static final class Router {
        // The route that was found last.
        final int[] route = new int[MOST_HOPS];
        int routeSize;
        int routeLength;

        private final int[] distances = new int[MOST_SWITCHES];
        // 1 or -1 for a trunk that a route takes, seen from the first or the second of its switches.
        private final int[] flows = new int[MOST_TRUNKS];
        private final int[] queue = new int[MOST_SWITCHES];
        private final int[] arrivals = new int[MOST_SWITCHES];

        /** Finds the best route and answers whether there is one. */
        boolean findRoute(Network network, int usable, int from, int to) {
            // The distances to the goal tell at each switch which trunks a best route can take on.
            measure(network, usable, to);
            routeSize = 0;
            if (distanceOf(from) >= FAR) {
                return false;
            }
            routeLength = distanceOf(from) / LENGTH_UNIT;
            int here = from;
            for (int hop = 0; hop < MOST_HOPS && here != to; hop++) {
                int trunk = firstTrunkToGoal(network, usable, here);
                route[hop] = trunk;
                routeSize = hop + 1;
                here = network.acrossFrom(trunk, here);
            }
            return here == to;
        }

        private int firstTrunkToGoal(Network network, int usable, int here) {
            for (int trunk = 0; trunk < network.trunkCount; trunk++) {
                int next = network.acrossFrom(trunk, here);
                if (next != NOTHING && hasBit(usable, trunk)
                        && distanceOf(here) == distanceOf(next) + keyOf(network.lengths[trunk])) {
                    return trunk;
                }
            }
            return NOTHING;
        }

        /** The length of the best route by Dijkstra's algorithm, or NOTHING. */
        int shortestLength(Network network, int usable, int from, int to) {
            measure(network, usable, from);
            return distanceOf(to) >= FAR ? NOTHING : distanceOf(to) / LENGTH_UNIT;
        }

        /** Fills the distances from a switch, by length and then by number of trunks. */
        private void measure(Network network, int usable, int start) {
            Arrays.fill(distances, FAR);
            shorten(start, 0);
            int settled = 0;
            for (int round = 0; round < network.switchCount; round++) {
                int nearest = nearestUnsettled(settled);
                if (nearest == NOTHING) {
                    return;
                }
                settled |= bit(nearest);
                for (int trunk = 0; trunk < network.trunkCount; trunk++) {
                    if (hasBit(usable, trunk)) {
                        shorten(network.acrossFrom(trunk, nearest),
                                distanceOf(nearest) + keyOf(network.lengths[trunk]));
                    }
                }
            }
        }

        private static int keyOf(int length) {
            return length * LENGTH_UNIT + 1;
        }

        private int nearestUnsettled(int settled) {
            int nearest = NOTHING;
            int least = FAR;
            for (int number = 0; number < MOST_SWITCHES; number++) {
                if ((settled >> number & 1) == 0 && distances[number] < least) {
                    nearest = number;
                    least = distances[number];
                }
            }
            return nearest;
        }

        private int distanceOf(int number) {
            return number >= 0 && number < MOST_SWITCHES ? distances[number] : FAR;
        }

        private void shorten(int number, int distance) {
            if (number >= 0 && number < MOST_SWITCHES && distance < distances[number]) {
                distances[number] = distance;
            }
        }

        /** The length of the best route by the algorithm of Bellman and Ford, or NOTHING. */
        int relaxedLength(Network network, int usable, int from, int to) {
            Arrays.fill(distances, FAR);
            shorten(from, 0);
            for (int round = 1; round < network.switchCount; round++) {
                for (int trunk = 0; trunk < network.trunkCount; trunk++) {
                    if (hasBit(usable, trunk)) {
                        int one = network.ones[trunk];
                        int other = network.others[trunk];
                        shorten(other, distanceOf(one) + network.lengths[trunk]);
                        shorten(one, distanceOf(other) + network.lengths[trunk]);
                    }
                }
            }
            return distanceOf(to) >= FAR ? NOTHING : distanceOf(to);
        }

        /** The number of routes without a common trunk, by a maximal flow. */
        int countDisjoint(Network network, int usable, int from, int to) {
            Arrays.fill(flows, 0);
            int routes = 0;
            while (routes < MOST_TRUNKS && search(network, usable, from, to)) {
                augment(network, from, to);
                routes++;
            }
            return routes;
        }

        /** Looks in breadth for an augmenting path and answers whether there is one. */
        private boolean search(Network network, int usable, int from, int to) {
            int seen = bit(from);
            queue[0] = from;
            int waiting = 1;
            for (int head = 0; head < MOST_SWITCHES && head < waiting; head++) {
                int here = queue[head];
                for (int trunk = 0; trunk < network.trunkCount; trunk++) {
                    int next = network.acrossFrom(trunk, here);
                    if (hasBit(usable, trunk) && hasRoom(network, trunk, here) && network.hasSwitch(next)
                            && !hasBit(seen, next) && waiting < MOST_SWITCHES) {
                        seen |= bit(next);
                        arrivals[next] = trunk;
                        queue[waiting] = next;
                        waiting++;
                    }
                }
            }
            return hasBit(seen, to);
        }

        private boolean hasRoom(Network network, int trunk, int from) {
            return network.ones[trunk] == from ? flows[trunk] < 1 : flows[trunk] > -1;
        }

        /** Sends one more route along the path that was found, back from its goal. */
        private void augment(Network network, int from, int to) {
            int here = to;
            for (int hop = 0; hop < MOST_HOPS && here != from && network.hasSwitch(here); hop++) {
                int trunk = arrivals[here];
                int before = network.acrossFrom(trunk, here);
                if (network.hasTrunk(trunk)) {
                    flows[trunk] += network.ones[trunk] == before ? 1 : -1;
                }
                here = before;
            }
        }

        /** The number of trunks of the smallest cut, by trying all sets of switches. */
        int smallestCut(Network network, int usable, int from, int to) {
            int smallest = MOST_TRUNKS;
            for (int set = 0; set < bit(network.switchCount); set++) {
                if (hasBit(set, from) && !hasBit(set, to)) {
                    smallest = Math.min(smallest, countLeaving(network, usable, set));
                }
            }
            return smallest;
        }

        private int countLeaving(Network network, int usable, int set) {
            int leaving = 0;
            for (int trunk = 0; trunk < network.trunkCount; trunk++) {
                boolean leaves = hasBit(set, network.ones[trunk]) != hasBit(set, network.others[trunk]);
                if (leaves && hasBit(usable, trunk)) {
                    leaving++;
                }
            }
            return leaving;
        }

        /** Whether both ways agree for all pairs of switches, which are the same in both directions. */
        boolean agreesWithItself(Network network, int usable) {
            for (int one = 0; one < network.switchCount; one++) {
                for (int other = one + 1; other < network.switchCount; other++) {
                    if (shortestLength(network, usable, one, other) != relaxedLength(network, usable, one, other)
                            || countDisjoint(network, usable, one, other)
                            != smallestCut(network, usable, one, other)) {
                        return false;
                    }
                }
            }
            return true;
        }
    }

    /** The latest blocked calls, the oldest one first. */
    private static final class BlockedCalls {
        int count;
        final int[] callers = new int[MOST_BLOCKED];
        final int[] callees = new int[MOST_BLOCKED];
        final char[] reasons = new char[MOST_BLOCKED];

        void enter(int caller, int callee, char reason) {
            if (count >= MOST_BLOCKED) {
                dropOldest();
            }
            callers[count] = caller;
            callees[count] = callee;
            reasons[count] = reason;
            count++;
        }

        private void dropOldest() {
            count = MOST_BLOCKED - 1;
            for (int number = 0; number < count; number++) {
                callers[number] = callers[number + 1];
                callees[number] = callees[number + 1];
                reasons[number] = reasons[number + 1];
            }
        }
    }

    /** The states before the latest changes, in a ring. */
    private static final class History {
        int count;
        private int next;
        private final State[] states = new State[MOST_UNDONE];

        History() {
            for (int index = 0; index < MOST_UNDONE; index++) {
                states[index] = new State();
            }
        }

        void keep(State state) {
            states[next].copyFrom(state);
            next = next + 1 < MOST_UNDONE ? next + 1 : 0;
            count = Math.min(count + 1, MOST_UNDONE);
        }

        void takeBack(State state) {
            next = next > 0 ? next - 1 : MOST_UNDONE - 1;
            count--;
            state.copyFrom(states[next]);
        }

        void forget() {
            count = 0;
        }
    }

    /** The program buffer and the commands that were read from it last. */
    private static final class Program {
        // Not a String or StringBuilder: any character may be typed.
        private final char[] text = new char[MOST_CHARACTERS];
        int size;
        int commandCount;
        final int[] kinds = new int[MOST_COMMANDS];
        final int[] firsts = new int[MOST_COMMANDS];
        final int[] seconds = new int[MOST_COMMANDS];
        final int[] thirds = new int[MOST_COMMANDS];
        // The first character that was not accepted yet, where the parser stays once it is broken.
        private int position;
        private boolean broken;

        int append(char character) {
            if (size < MOST_CHARACTERS) {
                text[size] = character;
                size++;
            }
            return size;
        }

        /** Reads the commands, empties the buffer and answers the error position, or NOTHING. */
        int parse() {
            position = 0;
            broken = false;
            commandCount = 0;
            boolean more = true;
            for (int number = 0; more && number < MOST_COMMANDS; number++) {
                readCommand(number);
                commandCount = number + 1;
                more = !broken && position < size;
                if (more) {
                    expect(';');
                }
            }
            size = 0;
            return broken ? position : NOTHING;
        }

        private void readCommand(int number) {
            int kind = kindAhead();
            expectWord(wordOf(kind));
            if (number < 0 || number >= MOST_COMMANDS) {
                broken = true;
                return;
            }
            kinds[number] = kind;
            firsts[number] = readFirst(kind);
            seconds[number] = readSecond(kind);
            thirds[number] = 0;
            if (kind == ADD_TRUNK) {
                expect('=');
                thirds[number] = readNumber();
            }
        }

        private int kindAhead() {
            switch (peek(0)) {
                case 's':
                    return ADD_SWITCH;
                case 't':
                    return ADD_TRUNK;
                case 'u':
                    return ADD_SUBSCRIBER;
                case 'c':
                    return peek(1) == 'u' ? CUT_TRUNK : START_CALL;
                case 'h':
                    return HANG_UP;
                case 'm':
                    return MEND_TRUNK;
                case 'w':
                    return LET_PASS;
                default:
                    broken = true;
                    return NOTHING;
            }
        }

        private static String wordOf(int kind) {
            switch (kind) {
                case ADD_SWITCH:
                    return "switch";
                case ADD_TRUNK:
                    return "trunk ";
                case ADD_SUBSCRIBER:
                    return "user ";
                case START_CALL:
                    return "call ";
                case HANG_UP:
                    return "hang ";
                case CUT_TRUNK:
                    return "cut ";
                case MEND_TRUNK:
                    return "mend ";
                case LET_PASS:
                    return "wait";
                default:
                    return "";
            }
        }

        private int readFirst(int kind) {
            switch (kind) {
                case ADD_TRUNK:
                case ADD_SUBSCRIBER:
                case START_CALL:
                case HANG_UP:
                    return readDigit();
                case CUT_TRUNK:
                case MEND_TRUNK:
                    return readNumber();
                case LET_PASS:
                    if (peek(0) != ' ') {
                        return 1;
                    }
                    expect(' ');
                    return readNumber();
                default:
                    return 0;
            }
        }

        private int readSecond(int kind) {
            switch (kind) {
                case ADD_TRUNK:
                    expect('-');
                    return readDigit();
                case ADD_SUBSCRIBER:
                    expect('/');
                    return readDigit();
                case START_CALL:
                    expect('>');
                    return readDigit();
                default:
                    return 0;
            }
        }

        private int readNumber() {
            int number = readDigit();
            return isDigit(peek(0)) ? number * 10 + readDigit() : number;
        }

        private int readDigit() {
            int character = peek(0);
            if (broken || !isDigit(character)) {
                broken = true;
                return 0;
            }
            position++;
            return character - '0';
        }

        private static boolean isDigit(int character) {
            return character >= '0' && character <= '9';
        }

        private void expectWord(String word) {
            for (int index = 0; index < word.length(); index++) {
                expect(word.charAt(index));
            }
        }

        private void expect(char character) {
            if (!broken && peek(0) == character) {
                position++;
            } else {
                broken = true;
            }
        }

        /** A character of the text, counted from the position, or NOTHING behind the text. */
        private int peek(int ahead) {
            int index = position + ahead;
            return index >= 0 && index < size ? text[index] : NOTHING;
        }
    }
}
