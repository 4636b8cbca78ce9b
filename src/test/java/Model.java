import java.util.ArrayDeque;
import java.util.ArrayList;
import java.util.Deque;
import java.util.HashMap;
import java.util.List;
import java.util.Map;
import java.util.NoSuchElementException;
import java.util.regex.Matcher;
import java.util.regex.Pattern;

/**
 * The document once more, in the plainest way and with other means than the program: all routes
 * are listed and compared, disjoint routes are chosen by trial, programs are read by a pattern.
 */
final class Model {
    private static final String NUMBER = "[0-9][0-9]?";
    private static final String COMMAND = "(?:switch|trunk [0-9]-[0-9]=" + NUMBER + "|user [0-9]/[0-9]|call [0-9]>[0-9]"
            + "|hang [0-9]|cut " + NUMBER + "|mend " + NUMBER + "|wait(?: " + NUMBER + ")?)";
    private static final Pattern PROGRAM = Pattern.compile(COMMAND + "(?:;" + COMMAND + ")*");

    static final class Trunk {
        int one;
        int other;
        int length;
        boolean cut;
        int carried;
    }

    static final class Subscriber {
        int home;
        int tariff;
        int bill;
    }

    static final class Talk {
        int caller;
        int callee;
        int minutes;
        List<Integer> route = new ArrayList<>();
    }

    static final class All {
        int switches;
        List<Trunk> trunks = new ArrayList<>();
        List<Subscriber> subscribers = new ArrayList<>();
        List<Talk> talks = new ArrayList<>();
        long charged;
        long ended;

        All copy() {
            All copy = new All();
            copy.switches = switches;
            copy.charged = charged;
            copy.ended = ended;
            for (Trunk trunk : trunks) {
                Trunk twin = new Trunk();
                twin.one = trunk.one;
                twin.other = trunk.other;
                twin.length = trunk.length;
                twin.cut = trunk.cut;
                twin.carried = trunk.carried;
                copy.trunks.add(twin);
            }
            for (Subscriber subscriber : subscribers) {
                Subscriber twin = new Subscriber();
                twin.home = subscriber.home;
                twin.tariff = subscriber.tariff;
                twin.bill = subscriber.bill;
                copy.subscribers.add(twin);
            }
            for (Talk talk : talks) {
                Talk twin = new Talk();
                twin.caller = talk.caller;
                twin.callee = talk.callee;
                twin.minutes = talk.minutes;
                twin.route = talk.route;
                copy.talks.add(twin);
            }
            return copy;
        }
    }

    All all = new All();
    private All saved;
    private final Deque<All> changes = new ArrayDeque<>();
    private final List<int[]> blocked = new ArrayList<>();
    private String buffer = "";
    private String line = "";
    private Integer errorPosition;
    private Integer failedCommand;

    private void changed(All before) {
        changes.addLast(before);
        if (changes.size() > 8) {
            changes.removeFirst();
        }
    }

    private static void index(boolean holds) {
        if (!holds) {
            throw new IndexOutOfBoundsException();
        }
    }

    private static void argument(boolean holds) {
        if (!holds) {
            throw new IllegalArgumentException();
        }
    }

    private static void state(boolean holds) {
        if (!holds) {
            throw new IllegalStateException();
        }
    }

    private static void element(boolean holds) {
        if (!holds) {
            throw new NoSuchElementException();
        }
    }

    private static void arithmetic(boolean holds) {
        if (!holds) {
            throw new ArithmeticException();
        }
    }

    private static boolean within(int number, int count) {
        return 0 <= number && number < count;
    }

    private Trunk trunk(int number) {
        index(within(number, all.trunks.size()));
        return all.trunks.get(number);
    }

    private Subscriber subscriber(int number) {
        index(within(number, all.subscribers.size()));
        return all.subscribers.get(number);
    }

    private Talk talk(int number) {
        for (Talk talk : all.talks) {
            if (talk.caller == number || talk.callee == number) {
                return talk;
            }
        }
        return null;
    }

    private Talk needTalk(int number) {
        subscriber(number);
        Talk talk = talk(number);
        element(talk != null);
        return talk;
    }

    private boolean isUsed(int number) {
        return all.talks.stream().anyMatch(talk -> talk.route.contains(number));
    }

    private boolean[] free() {
        boolean[] free = new boolean[all.trunks.size()];
        for (int number = 0; number < free.length; number++) {
            free[number] = !all.trunks.get(number).cut && !isUsed(number);
        }
        return free;
    }

    private List<List<Integer>> routes(boolean[] usable, int from, int to) {
        List<List<Integer>> routes = new ArrayList<>();
        list(usable, from, to, new ArrayList<>(), new ArrayList<>(List.of(from)), routes);
        return routes;
    }

    private void list(boolean[] usable, int here, int to, List<Integer> taken, List<Integer> visited,
            List<List<Integer>> routes) {
        if (here == to) {
            routes.add(new ArrayList<>(taken));
            return;
        }
        for (int number = 0; number < usable.length; number++) {
            Trunk trunk = all.trunks.get(number);
            if (usable[number] && (trunk.one == here || trunk.other == here)) {
                int next = trunk.one + trunk.other - here;
                if (!visited.contains(next)) {
                    taken.add(number);
                    visited.add(next);
                    list(usable, next, to, taken, visited, routes);
                    taken.remove(taken.size() - 1);
                    visited.remove(visited.size() - 1);
                }
            }
        }
    }

    private int length(List<Integer> route) {
        int sum = 0;
        for (int number : route) {
            sum += all.trunks.get(number).length;
        }
        return sum;
    }

    private int compare(List<Integer> one, List<Integer> other) {
        int order = Integer.compare(length(one), length(other));
        if (order == 0) {
            order = Integer.compare(one.size(), other.size());
        }
        for (int index = 0; order == 0 && index < one.size(); index++) {
            order = Integer.compare(one.get(index), other.get(index));
        }
        return order;
    }

    private List<Integer> best(boolean[] usable, int from, int to) {
        return routes(usable, from, to).stream().min(this::compare).orElse(null);
    }

    private int charge(Talk talk) {
        int product = talk.minutes * (length(talk.route) + 1);
        switch (subscriber(talk.caller).tariff) {
            case 0:
                return 25;
            case 1:
                return product;
            default:
                return product / 2 + product % 2;
        }
    }

    private int end(Talk talk) {
        int charge = charge(talk);
        subscriber(talk.caller).bill += charge;
        all.charged += charge;
        all.ended++;
        all.talks.remove(talk);
        return charge;
    }

    long addSwitch() {
        state(all.switches < 8);
        changed(all.copy());
        return all.switches++;
    }

    long addTrunk(int one, int other, int length) {
        index(within(one, all.switches) && within(other, all.switches));
        argument(one != other && 1 <= length && length <= 20);
        state(all.trunks.size() < 16);
        changed(all.copy());
        Trunk trunk = new Trunk();
        trunk.one = one;
        trunk.other = other;
        trunk.length = length;
        all.trunks.add(trunk);
        return all.trunks.size() - 1;
    }

    long addSubscriber(int home, int tariff) {
        index(within(home, all.switches));
        argument(within(tariff, 3));
        state(all.subscribers.size() < 10);
        changed(all.copy());
        Subscriber subscriber = new Subscriber();
        subscriber.home = home;
        subscriber.tariff = tariff;
        all.subscribers.add(subscriber);
        return all.subscribers.size() - 1;
    }

    long cut(int number) {
        state(!trunk(number).cut);
        changed(all.copy());
        boolean[] usable = free();
        trunk(number).cut = true;
        for (Talk talk : all.talks) {
            if (talk.route.contains(number)) {
                for (int own : talk.route) {
                    usable[own] = true;
                }
                usable[number] = false;
                List<Integer> route = best(usable, subscriber(talk.caller).home, subscriber(talk.callee).home);
                if (route == null) {
                    end(talk);
                    return 1;
                }
                talk.route = route;
                return 0;
            }
        }
        return 0;
    }

    long mend(int number) {
        state(trunk(number).cut);
        changed(all.copy());
        trunk(number).cut = false;
        return all.trunks.stream().filter(trunk -> trunk.cut).count();
    }

    long call(int caller, int callee) {
        subscriber(caller);
        subscriber(callee);
        argument(caller != callee);
        if (talk(caller) != null || talk(callee) != null) {
            block(caller, callee, 'b');
            throw new IllegalStateException();
        }
        List<Integer> route = best(free(), subscriber(caller).home, subscriber(callee).home);
        if (route == null) {
            block(caller, callee, 'r');
            throw new UnsupportedOperationException();
        }
        changed(all.copy());
        Talk talk = new Talk();
        talk.caller = caller;
        talk.callee = callee;
        talk.route = route;
        all.talks.add(talk);
        return length(route);
    }

    private void block(int caller, int callee, char reason) {
        blocked.add(new int[] {caller, callee, reason});
        if (blocked.size() > 8) {
            blocked.remove(0);
        }
    }

    long hangUp(int number) {
        subscriber(number);
        state(talk(number) != null);
        changed(all.copy());
        return end(talk(number));
    }

    long pass(int minutes) {
        argument(1 <= minutes && minutes <= 60);
        changed(all.copy());
        for (Talk talk : all.talks) {
            talk.minutes += minutes;
            for (int number : talk.route) {
                trunk(number).carried += minutes;
            }
        }
        return all.talks.size();
    }

    long trunkLength(int number) {
        return trunk(number).length;
    }

    long otherEnd(int number, int end) {
        Trunk trunk = trunk(number);
        argument(trunk.one == end || trunk.other == end);
        return trunk.one == end ? trunk.other : trunk.one;
    }

    long isCut(int number) {
        return trunk(number).cut ? 1 : 0;
    }

    long userOf(int number) {
        trunk(number);
        for (Talk talk : all.talks) {
            if (talk.route.contains(number)) {
                return talk.caller;
            }
        }
        throw new NoSuchElementException();
    }

    long minutesOn(int number) {
        return trunk(number).carried;
    }

    long routeLength(int from, int to) {
        index(within(from, all.switches) && within(to, all.switches));
        List<Integer> route = best(free(), from, to);
        element(route != null);
        return length(route);
    }

    long disjointRoutes(int from, int to) {
        index(within(from, all.switches) && within(to, all.switches));
        argument(from != to);
        boolean[] free = free();
        int mask = 0;
        for (int number = 0; number < free.length; number++) {
            mask |= free[number] ? 1 << number : 0;
        }
        List<Integer> masks = new ArrayList<>();
        for (List<Integer> route : routes(free, from, to)) {
            int bits = 0;
            for (int number : route) {
                bits |= 1 << number;
            }
            masks.add(bits);
        }
        return most(masks, mask, from, new HashMap<>());
    }

    /** The most routes that fit: the first trunk at the switch is left out, or one of its routes is taken. */
    private int most(List<Integer> routes, int mask, int from, Map<Integer, Integer> known) {
        int first = -1;
        for (int number = all.trunks.size() - 1; number >= 0; number--) {
            Trunk trunk = all.trunks.get(number);
            if ((mask & 1 << number) != 0 && (trunk.one == from || trunk.other == from)) {
                first = number;
            }
        }
        if (first < 0) {
            return 0;
        }
        Integer before = known.get(mask);
        if (before != null) {
            return before;
        }
        int best = most(routes, mask & ~(1 << first), from, known);
        for (int route : routes) {
            if ((route & 1 << first) != 0 && (route & ~mask) == 0) {
                best = Math.max(best, 1 + most(routes, mask & ~route, from, known));
            }
        }
        known.put(mask, best);
        return best;
    }

    long home(int number) {
        return subscriber(number).home;
    }

    long tariff(int number) {
        return subscriber(number).tariff;
    }

    long bill(int number) {
        return subscriber(number).bill;
    }

    long isTalking(int number) {
        subscriber(number);
        return talk(number) != null ? 1 : 0;
    }

    long partner(int number) {
        Talk talk = needTalk(number);
        return talk.caller + talk.callee - number;
    }

    long minutes(int number) {
        return needTalk(number).minutes;
    }

    long routeSize(int number) {
        return needTalk(number).route.size();
    }

    long routeTrunk(int number, int index) {
        Talk talk = needTalk(number);
        element(within(index, talk.route.size()));
        return talk.route.get(index);
    }

    long chargeNow(int number) {
        return charge(needTalk(number));
    }

    long blockedCalls() {
        return blocked.size();
    }

    /** Part 0 is the caller, 1 the callee, 2 the reason. */
    long blockedPart(int number, int part) {
        element(within(number, blocked.size()));
        return blocked.get(number)[part];
    }

    long totalBills() {
        return all.subscribers.stream().mapToLong(subscriber -> subscriber.bill).sum();
    }

    long subscriberByBill(int rank) {
        List<Integer> order = new ArrayList<>();
        for (int number = 0; number < all.subscribers.size(); number++) {
            order.add(number);
        }
        // The sort is stable, so that equals stay in the order of their numbers.
        order.sort((one, other) -> Integer.compare(all.subscribers.get(other).bill, all.subscribers.get(one).bill));
        element(within(rank, order.size()));
        return order.get(rank);
    }

    double meanCharge() {
        arithmetic(all.ended != 0);
        return (double) all.charged / (double) all.ended;
    }

    float usedShare() {
        arithmetic(!all.trunks.isEmpty());
        int used = 0;
        for (int number = 0; number < all.trunks.size(); number++) {
            used += isUsed(number) ? 1 : 0;
        }
        return (float) used / (float) all.trunks.size();
    }

    long writeTrunk(int number) {
        Trunk trunk = trunk(number);
        line = Math.min(trunk.one, trunk.other) + "-" + Math.max(trunk.one, trunk.other) + "=" + trunk.length
                + (trunk.cut ? "x" : isUsed(number) ? "*" : "");
        return line.length();
    }

    long writeCalls() {
        List<String> parts = new ArrayList<>();
        for (Talk talk : all.talks) {
            parts.add(talk.caller + ">" + talk.callee + ":" + talk.minutes);
        }
        line = String.join(" ", parts);
        return line.length();
    }

    long charAt(int index) {
        index(within(index, line.length()));
        return line.charAt(index);
    }

    long type(char character) {
        state(buffer.length() < 60);
        buffer += character;
        return buffer.length();
    }

    long run() {
        String text = buffer;
        buffer = "";
        if (!PROGRAM.matcher(text).matches()) {
            errorPosition = firstError(text);
            throw new IllegalArgumentException();
        }
        All before = all.copy();
        List<All> changesBefore = new ArrayList<>(changes);
        String[] commands = text.split(";");
        boolean failed = false;
        for (int number = 0; number < commands.length && !failed; number++) {
            try {
                execute(commands[number]);
            } catch (RuntimeException refusal) {
                failedCommand = number;
                failed = true;
            }
        }
        changes.clear();
        changes.addAll(changesBefore);
        if (failed) {
            all = before;
            throw new UnsupportedOperationException();
        }
        changed(before);
        return commands.length;
    }

    private static int firstError(String text) {
        for (int index = 0; index < text.length(); index++) {
            Matcher matcher = PROGRAM.matcher(text.substring(0, index + 1));
            if (!matcher.matches() && !matcher.hitEnd()) {
                return index;
            }
        }
        return text.length();
    }

    private void execute(String command) {
        String[] parts = command.split("[^0-9]+");
        int[] values = new int[4];
        for (int index = 1; index < parts.length; index++) {
            values[index] = Integer.parseInt(parts[index]);
        }
        switch (command.substring(0, 2)) {
            case "sw":
                addSwitch();
                break;
            case "tr":
                addTrunk(values[1], values[2], values[3]);
                break;
            case "us":
                addSubscriber(values[1], values[2]);
                break;
            case "ca":
                call(values[1], values[2]);
                break;
            case "ha":
                hangUp(values[1]);
                break;
            case "cu":
                cut(values[1]);
                break;
            case "me":
                mend(values[1]);
                break;
            default:
                pass(command.equals("wait") ? 1 : values[1]);
                break;
        }
    }

    long errorPosition() {
        element(errorPosition != null);
        return errorPosition;
    }

    long failedCommand() {
        element(failedCommand != null);
        return failedCommand;
    }

    long undo() {
        state(!changes.isEmpty());
        all = changes.removeLast();
        return changes.size();
    }

    long save() {
        saved = all.copy();
        return all.subscribers.size();
    }

    long restore() {
        state(saved != null);
        all = saved.copy();
        changes.clear();
        return all.subscribers.size();
    }
}
