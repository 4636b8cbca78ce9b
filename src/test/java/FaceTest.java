import java.lang.reflect.Constructor;
import java.lang.reflect.Field;
import java.lang.reflect.Method;
import java.lang.reflect.Modifier;
import java.util.TreeSet;

/** The public face: what the document lists, and no other member that is not private. */
public final class FaceTest {
    private static final Check CHECK = new Check("FaceTest");

    private static final String[] FACE = {
        "int addSwitch() IllegalStateException",
        "int addTrunk(int,int,int) IndexOutOfBoundsException IllegalArgumentException IllegalStateException",
        "int addSubscriber(int,int) IndexOutOfBoundsException IllegalArgumentException IllegalStateException",
        "boolean cut(int) IndexOutOfBoundsException IllegalStateException",
        "int mend(int) IndexOutOfBoundsException IllegalStateException",
        "int call(int,int) IndexOutOfBoundsException IllegalArgumentException IllegalStateException"
            + " UnsupportedOperationException",
        "int hangUp(int) IndexOutOfBoundsException IllegalStateException",
        "int pass(int) IllegalArgumentException",
        "int switches()",
        "int trunks()",
        "int trunkLength(int) IndexOutOfBoundsException",
        "int otherEnd(int,int) IndexOutOfBoundsException IllegalArgumentException",
        "boolean isCut(int) IndexOutOfBoundsException",
        "int userOf(int) IndexOutOfBoundsException NoSuchElementException",
        "int minutesOn(int) IndexOutOfBoundsException",
        "int routeLength(int,int) IndexOutOfBoundsException NoSuchElementException",
        "int routeLengthByRelaxation(int,int) IndexOutOfBoundsException NoSuchElementException",
        "int disjointRoutes(int,int) IndexOutOfBoundsException IllegalArgumentException",
        "int minimalCut(int,int) IndexOutOfBoundsException IllegalArgumentException",
        "int subscribers()",
        "int home(int) IndexOutOfBoundsException",
        "int tariff(int) IndexOutOfBoundsException",
        "int bill(int) IndexOutOfBoundsException",
        "boolean isTalking(int) IndexOutOfBoundsException",
        "int partner(int) IndexOutOfBoundsException NoSuchElementException",
        "int minutes(int) IndexOutOfBoundsException NoSuchElementException",
        "int routeSize(int) IndexOutOfBoundsException NoSuchElementException",
        "int routeTrunk(int,int) IndexOutOfBoundsException NoSuchElementException",
        "int chargeNow(int) IndexOutOfBoundsException NoSuchElementException",
        "int calls()",
        "int blockedCalls()",
        "int blockedCaller(int) NoSuchElementException",
        "int blockedCallee(int) NoSuchElementException",
        "char blockedReason(int) NoSuchElementException",
        "long totalBills()",
        "long totalCharges()",
        "int subscriberByBill(int) NoSuchElementException",
        "double meanCharge() ArithmeticException",
        "float usedShare() ArithmeticException",
        "boolean isConsistent()",
        "int writeTrunk(int) IndexOutOfBoundsException",
        "int writeCalls()",
        "char charAt(int) IndexOutOfBoundsException",
        "int type(char) IllegalStateException",
        "int run() IllegalArgumentException UnsupportedOperationException",
        "int errorPosition() NoSuchElementException",
        "int failedCommand() NoSuchElementException",
        "int undo() IllegalStateException",
        "int save()",
        "int restore() IllegalStateException",
    };

    public static void main(String[] args) {
        Class<?> face = Switchboard.class;
        CHECK.yes("the class is public and final",
                Modifier.isPublic(face.getModifiers()) && Modifier.isFinal(face.getModifiers()));
        CHECK.equal("constructors", face.getDeclaredConstructors().length, 1);
        for (Constructor<?> constructor : face.getDeclaredConstructors()) {
            CHECK.yes("the constructor is public", Modifier.isPublic(constructor.getModifiers()));
            CHECK.equal("its parameters", constructor.getParameterCount(), 0);
        }
        for (Field field : face.getDeclaredFields()) {
            CHECK.yes(field + " is private", Modifier.isPrivate(field.getModifiers()));
        }
        checkMethods(face);
        CHECK.end();
    }

    private static void checkMethods(Class<?> face) {
        TreeSet<String> due = new TreeSet<>();
        TreeSet<String> publicNames = new TreeSet<>();
        for (String line : FACE) {
            due.add(line);
            publicNames.add(line.substring(line.indexOf(' ') + 1, line.indexOf('(')));
        }
        TreeSet<String> found = new TreeSet<>();
        for (Method method : face.getDeclaredMethods()) {
            if (Modifier.isPublic(method.getModifiers())) {
                found.add(describe(method));
            } else {
                CHECK.yes(method + " is private", Modifier.isPrivate(method.getModifiers()));
                CHECK.no(method + " bears a public name", publicNames.contains(method.getName()));
            }
        }
        CHECK.equal("the face", String.join("\n", found), String.join("\n", due));
    }

    private static String describe(Method method) {
        StringBuilder text = new StringBuilder();
        text.append(method.getReturnType().getSimpleName()).append(' ').append(method.getName()).append('(');
        for (Class<?> parameter : method.getParameterTypes()) {
            text.append(text.charAt(text.length() - 1) == '(' ? "" : ",").append(parameter.getSimpleName());
        }
        text.append(')');
        for (Class<?> thrown : method.getExceptionTypes()) {
            text.append(' ').append(thrown.getSimpleName());
        }
        return text.toString();
    }
}
