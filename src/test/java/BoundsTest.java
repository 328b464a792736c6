import java.lang.reflect.InvocationTargetException;
import java.lang.reflect.Method;
import java.util.Arrays;
import java.util.Comparator;

/** Calls each test of a single sentence, and fails if a sentence of the document has none. */
public final class BoundsTest {
    private static final Class<?>[] TESTS = {RequestBounds.class, WriteBounds.class, TaskBounds.class,
        TextBounds.class, HistoryBounds.class, ToldBounds.class};
    private static int tests = 0;

    private BoundsTest() {
    }

    public static void main(String[] args) throws IllegalAccessException, InvocationTargetException {
        for (Class<?> one : TESTS) {
            callAll(one);
        }
        for (String piece : Doc.unquoted()) {
            Due.due("tests of promise " + piece, 0, 1);
        }
        System.out.println("BoundsTest: " + tests + " tests of single sentences");
        Due.end("BoundsTest");
    }

    private static void callAll(Class<?> one) throws IllegalAccessException, InvocationTargetException {
        Method[] methods = one.getDeclaredMethods();
        Arrays.sort(methods, Comparator.comparing(Method::getName));
        for (Method method : methods) {
            if (method.getName().matches("p\\d+[A-Z].*")) {
                method.invoke(null);
                Due.due("promise that " + method.getName() + " quotes", Bounds.promiseOfLastSentence(),
                    Integer.parseInt(method.getName().replaceAll("^p(\\d+).*", "$1")));
                tests++;
            }
        }
    }
}
