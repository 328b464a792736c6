import java.io.IOException;
import java.lang.reflect.Field;
import java.lang.reflect.Method;
import java.lang.reflect.Modifier;
import java.nio.charset.StandardCharsets;
import java.nio.file.Files;
import java.nio.file.Path;
import java.util.HashMap;
import java.util.HashSet;
import java.util.List;
import java.util.Map;
import java.util.Set;
import java.util.regex.MatchResult;
import java.util.regex.Matcher;
import java.util.regex.Pattern;

/** README.md: its examples answer what it says, and its rows say of each method what the document says. */
public final class ReadmeTest {
    private static final Pattern EXAMPLE = Pattern.compile("(?s)\n```java\n(.*?)```\n");
    private static final String NEW_POOL = "GuardedPool pool = new GuardedPool();";
    private static final Pattern CALL = Pattern.compile("pool\\.(\\w+)\\((.*)\\); +// (-?\\d+|[A-Z_]+)(:.*)?");
    /** A row of a table: the call, what it does, what it answers, and in the last cell the answers below 0. */
    private static final Pattern ROW = Pattern.compile("(?m)^\\| `(\\w+)\\((.*?)\\)` \\|(.*)\\|([^|]*)\\|$");
    /** A promise of the document: the method, its arguments, and all that is said of it. */
    private static final Pattern PROMISE =
        Pattern.compile("(?m)^## Promise \\d+: .*\n\n`int (\\w+)\\((.*)\\)`:(.*(?:\n(?!## ).*)*)");
    private static final Pattern NAME = Pattern.compile("\\b(UNKNOWN|BAD_VALUE|FULL|NOT_POSSIBLE|NONE|REFUSED)\\b");

    private static final Map<String, Method> FACE = new HashMap<>();
    private static final Set<String> SHOWN = new HashSet<>();

    private ReadmeTest() {
    }

    public static void main(String[] args) throws IOException, ReflectiveOperationException {
        String readme = Files.readString(Path.of("README.md"), StandardCharsets.UTF_8);
        String document = Files.readString(Path.of("../shared/DOC.md"), StandardCharsets.UTF_8);
        for (Method method : GuardedPool.class.getDeclaredMethods()) {
            if (Modifier.isPublic(method.getModifiers())) {
                FACE.put(method.getName(), method);
            }
        }
        examples(readme);
        constants(readme);
        rows(readme, document);
        holds("README.md tells how to run the tests", readme.contains("\n    .ci/run\n"));
        Due.end("ReadmeTest");
    }

    private static void examples(String readme) throws ReflectiveOperationException {
        Matcher example = EXAMPLE.matcher(readme);
        while (example.find()) {
            GuardedPool pool = null;
            for (String line : example.group(1).split("\n")) {
                if (line.equals(NEW_POOL)) {
                    pool = new GuardedPool();
                } else {
                    call(pool, line);
                }
            }
        }
        holds("each method is in an example: " + SHOWN, SHOWN.equals(FACE.keySet()));
    }

    private static void call(GuardedPool pool, String line) throws ReflectiveOperationException {
        Matcher call = CALL.matcher(line);
        boolean isCall = pool != null && call.matches() && FACE.containsKey(call.group(1));
        holds("a call on a new pool, with its answer: " + line, isCall);
        if (isCall) {
            Method method = FACE.get(call.group(1));
            SHOWN.add(method.getName());
            int answer = (int) method.invoke(pool, arguments(method, call.group(2)));
            Due.due("README.md: " + line, answer, number(call.group(3)));
        }
    }

    private static Object[] arguments(Method method, String text) {
        Class<?>[] types = method.getParameterTypes();
        String[] parts = types.length > 1 ? text.split(", ") : new String[] {text};
        Object[] arguments = new Object[types.length];
        for (int i = 0; i < types.length; i++) {
            if (types[i] == char.class) {
                arguments[i] = parts[i].charAt(1);
            } else if (types[i] == boolean.class) {
                arguments[i] = Boolean.valueOf(parts[i]);
            } else {
                arguments[i] = Integer.valueOf(parts[i]);
            }
        }
        return arguments;
    }

    private static int number(String answer) throws ReflectiveOperationException {
        boolean isConstant = Character.isLetter(answer.charAt(0));
        return isConstant ? GuardedPool.class.getField(answer).getInt(null) : Integer.parseInt(answer);
    }

    private static void constants(String readme) throws ReflectiveOperationException {
        for (Field field : GuardedPool.class.getFields()) {
            String row = "\n| `" + field.getName() + "` | " + field.getInt(null) + " | ";
            holds("README.md has the row" + row, readme.contains(row));
        }
    }

    private static void rows(String readme, String document) {
        Map<String, MatchResult> promises = new HashMap<>();
        PROMISE.matcher(document).results().forEach(promise -> promises.put(promise.group(1), promise));
        Set<String> told = new HashSet<>();
        Matcher row = ROW.matcher(readme);
        while (row.find()) {
            MatchResult promise = promises.get(row.group(1));
            if (promise == null) {
                continue;
            }
            String name = "README.md's row of " + row.group(1) + " names ";
            String body = promise.group(3);
            String returns = body.substring(body.indexOf("Returns "));
            told.add(row.group(1));
            holds(name + "its arguments", row.group(2).equals(promise.group(2).replaceAll("\\w+ (\\w+)", "$1")));
            holds(name + "its answers below 0", names(row.group(4)).equals(names(returns)));
            holds(name + "an act", row.group(3).contains("act)") == body.matches("(?s).*This is (an|one) act.*"));
        }
        holds("each method has a row: " + told, told.equals(FACE.keySet()));
    }

    private static List<String> names(String text) {
        return NAME.matcher(text).results().map(MatchResult::group).toList();
    }

    private static void holds(String text, boolean holds) {
        Due.due(text, holds ? 1 : 0, 1);
    }
}
