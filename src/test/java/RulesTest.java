import java.io.IOException;
import java.lang.reflect.Field;
import java.lang.reflect.Method;
import java.lang.reflect.Modifier;
import java.nio.charset.StandardCharsets;
import java.nio.file.Files;
import java.nio.file.Path;
import java.util.Arrays;
import java.util.Set;
import java.util.TreeSet;
import java.util.regex.Matcher;
import java.util.regex.Pattern;
import java.util.stream.Collectors;

/** The face, and the rules of ../shared/LANGUAGE.md that can be read from the file's signs. */
public final class RulesTest {
    private static final Set<String> FACE = Set.of("ask(int,int)", "giveBack(int,int)", "write(int,int,int,int)",
        "touch(int)", "live(int,boolean)", "setLimit(int,int)", "setPatience(int)", "pass(int)", "sweep()",
        "type(char)", "clearText()", "perform()", "stopped(int)", "undo()", "keep()", "restore()", "block(int,int)",
        "word(int,int)", "task(int,int)", "reason(int,int)", "greatest(int)", "leak(int)", "refused(int)",
        "size(int,int)", "count(int)");
    private static final Set<String> CONSTANTS =
        Set.of("UNKNOWN", "BAD_VALUE", "FULL", "NOT_POSSIBLE", "NONE", "REFUSED");
    private static final String[] RULED_OUT = {"throw", "try", "catch", "synchronized", "assert", "import", "package",
        "instanceof", "finally", "volatile", "native", "throws", "equals", "hashCode", "toString", "->", "::",
        "Exact", "Math\\.random", "nanoTime", "currentTimeMillis", "Thread", "println", "var", "yield"};

    private RulesTest() {
    }

    public static void main(String[] args) throws IOException {
        face();
        insideClasses();
        String source = Files.readString(Path.of("src/main/java/GuardedPool.java"), StandardCharsets.ISO_8859_1);
        signs(source);
        Due.end("RulesTest");
    }

    private static String signature(Method method) {
        return Arrays.stream(method.getParameterTypes()).map(Class::getSimpleName)
            .collect(Collectors.joining(",", method.getName() + "(", ")"));
    }

    private static void face() {
        Set<String> seen = new TreeSet<>();
        for (Method method : GuardedPool.class.getDeclaredMethods()) {
            if (Modifier.isPrivate(method.getModifiers())) {
                rule("rule 1: private " + method.getName(),
                    FACE.stream().noneMatch(one -> one.startsWith(method.getName() + "(")));
            } else {
                rule("rule 1: " + method, method.getModifiers() == Modifier.PUBLIC
                    && method.getReturnType() == int.class && FACE.contains(signature(method)));
                seen.add(signature(method));
            }
        }
        rule("every method of the face", seen.equals(FACE));
        for (Field field : GuardedPool.class.getDeclaredFields()) {
            boolean isConstant = CONSTANTS.contains(field.getName());
            int modifiers = field.getModifiers();
            rule("rule 1: " + field, isConstant == Modifier.isPublic(modifiers)
                && (isConstant || Modifier.isPrivate(modifiers)));
            rule("rule 5: " + field, !Modifier.isStatic(modifiers) || Modifier.isFinal(modifiers));
        }
        rule("rule 1: the class", GuardedPool.class.getModifiers() == (Modifier.PUBLIC | Modifier.FINAL));
        rule("rule 1: the constructor", GuardedPool.class.getDeclaredConstructors().length == 1
            && GuardedPool.class.getConstructors().length == 1
            && GuardedPool.class.getConstructors()[0].getParameterCount() == 0);
    }

    private static void insideClasses() {
        Class<?>[] inside = GuardedPool.class.getDeclaredClasses();
        rule("rule 11: classes", inside.length <= 11);
        for (Class<?> one : inside) {
            int modifiers = one.getModifiers();
            rule("rule 2: " + one, Modifier.isStatic(modifiers) && !Modifier.isPublic(modifiers)
                && !Modifier.isProtected(modifiers));
            for (Method method : one.getDeclaredMethods()) {
                rule("rule 1: " + method, FACE.stream().noneMatch(f -> f.startsWith(method.getName() + "(")));
                rule("rule 11: " + method, method.getParameterCount() <= 7);
            }
            for (Field field : one.getDeclaredFields()) {
                rule("rule 5: " + field, !Modifier.isStatic(field.getModifiers()));
            }
            rule("rule 11: fields of " + one, one.getDeclaredFields().length <= 20);
        }
    }

    private static void signs(String source) {
        rule("rule 4: signs 1 to 127", source.chars().allMatch(sign -> sign >= 1 && sign <= 127));
        for (String word : RULED_OUT) {
            boolean isWord = Character.isLetter(word.charAt(0));
            Matcher matcher = Pattern.compile(isWord ? "\\b" + word + "\\b" : word).matcher(source);
            rule("rule 4 or 6: " + word, !matcher.find());
        }
        shortMethods(source);
    }

    private static void shortMethods(String source) {
        String[] lines = source.split("\n");
        int began = 0;
        String end = null;
        for (int i = 0; i < lines.length; i++) {
            if (lines[i].matches("( {4}| {8})\\S.*\\) \\{")) {
                began = i;
                end = lines[i].startsWith("        ") ? "        }" : "    }";
            }
            if (lines[i].equals(end)) {
                rule("rule 11: the method at line " + (began + 1), i - began < 60);
            }
        }
    }

    private static void rule(String text, boolean holds) {
        Due.due(text, holds ? 1 : 0, 1);
    }
}
