import java.io.IOException;
import java.lang.reflect.InvocationTargetException;
import java.lang.reflect.Method;
import java.lang.reflect.Modifier;
import java.nio.charset.StandardCharsets;
import java.nio.file.DirectoryStream;
import java.nio.file.Files;
import java.nio.file.Path;
import java.util.HashMap;
import java.util.HashSet;
import java.util.Map;
import java.util.Set;
import java.util.regex.Matcher;
import java.util.regex.Pattern;

/** README.md: makes the calls of its examples, whose answers must be as it says, and looks for its tests. */
public final class ReadmeTest {
    private static final Check CHECK = new Check("ReadmeTest");
    private static final int PROMISED_CALLS = 512;

    private static final Pattern CALL = Pattern.compile("board\\.(\\w+)\\((.*)\\);\\s*// (.+)");
    private static final Pattern TYPED =
            Pattern.compile("for \\(char sign : \"(.*)\"\\.toCharArray\\(\\)\\) \\{ board\\.type\\(sign\\); \\}");
    // A line of output that a reason quotes, as in: // 5: the line is "0>2:3"
    private static final Pattern WRITTEN = Pattern.compile("write\\w+\\(.*\"(.*)\"");

    private static final Map<String, Method> FACE = new HashMap<>();
    private static final Set<String> USED = new HashSet<>();

    private static Switchboard board;
    private static int calls;

    public static void main(String[] args) throws IOException, IllegalAccessException {
        for (Method method : Switchboard.class.getDeclaredMethods()) {
            if (Modifier.isPublic(method.getModifiers())) {
                FACE.put(method.getName(), method);
            }
        }
        String readme = Files.readString(Path.of("README.md"), StandardCharsets.UTF_8);
        boolean example = false;
        for (String line : readme.split("\n")) {
            if (line.startsWith("```")) {
                example = line.equals("```java");
            } else if (example) {
                checkLine(line);
            }
        }
        CHECK.under("README.md");
        CHECK.yes("the examples stay within the promised calls", calls <= PROMISED_CALLS);
        for (String name : FACE.keySet()) {
            CHECK.yes("there is an example of " + name, USED.contains(name));
        }
        checkTests(readme);
        CHECK.end();
    }

    private static void checkLine(String line) throws IllegalAccessException {
        CHECK.under(line);
        Matcher call = CALL.matcher(line);
        Matcher typed = TYPED.matcher(line);
        if (line.equals("Switchboard board = new Switchboard();")) {
            board = new Switchboard();
            calls = 0;
        } else if (typed.matches()) {
            for (char sign : typed.group(1).toCharArray()) {
                board.type(sign);
                calls++;
            }
        } else if (call.matches() && FACE.containsKey(call.group(1))) {
            String due = call.group(3).split(": ", 2)[0];
            CHECK.equal("the call", answerOf(FACE.get(call.group(1)), call.group(2)), due);
            USED.add(call.group(1));
            checkWritten(line);
        } else {
            CHECK.tell("this is no call that the test knows");
        }
    }

    private static String answerOf(Method method, String arguments) throws IllegalAccessException {
        String[] words = arguments.isEmpty() ? new String[0] : arguments.split(", ");
        Object[] values = new Object[words.length];
        for (int index = 0; index < words.length; index++) {
            boolean sign = words[index].charAt(0) == '\'';
            values[index] = sign ? (Object) words[index].charAt(1) : (Object) Integer.valueOf(words[index]);
        }
        calls++;
        try {
            Object answer = method.invoke(board, values);
            return answer instanceof Character ? "'" + answer + "'" : String.valueOf(answer);
        } catch (InvocationTargetException thrown) {
            return "throws " + thrown.getCause().getClass().getSimpleName();
        }
    }

    private static void checkWritten(String line) {
        Matcher written = WRITTEN.matcher(line);
        if (written.find()) {
            StringBuilder text = new StringBuilder();
            for (int index = 0; index < written.group(1).length(); index++) {
                text.append(board.charAt(index));
                calls++;
            }
            CHECK.equal("the line", text.toString(), written.group(1));
        }
    }

    private static void checkTests(String readme) throws IOException {
        CHECK.yes("tells of .ci/run", readme.contains("`.ci/run`"));
        try (DirectoryStream<Path> tests = Files.newDirectoryStream(Path.of("src/test/java"), "*Test.java")) {
            for (Path test : tests) {
                String name = test.getFileName().toString().replace(".java", "");
                CHECK.yes("tells of " + name, readme.contains("| " + name + " |"));
            }
        }
    }
}
