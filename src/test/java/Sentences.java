import java.io.IOException;
import java.lang.reflect.InvocationTargetException;
import java.lang.reflect.Method;
import java.nio.file.Files;
import java.nio.file.Path;
import java.util.ArrayList;
import java.util.Comparator;
import java.util.List;

/** Runs the tests of a class that stand for sentences of the document, each by itself. */
final class Sentences {
    private static final Path DOCUMENT = Path.of("../shared/DOC.md");

    private Sentences() {
    }

    static List<Method> of(Class<?> test) {
        List<Method> tests = new ArrayList<>();
        for (Method method : test.getDeclaredMethods()) {
            if (method.isAnnotationPresent(Says.class)) {
                method.setAccessible(true);
                tests.add(method);
            }
        }
        tests.sort(Comparator.comparing(Method::getName));
        return tests;
    }

    static void runAll(Class<?> test, Check check) throws IOException {
        String document = Files.exists(DOCUMENT) ? plain(Files.readString(DOCUMENT)) : null;
        for (Method method : of(test)) {
            String quote = plain(method.getAnnotation(Says.class).value());
            check.holds(method.getName() + " quotes the document", document == null || document.contains(quote));
            check.under(method.getName());
            runOne(method, check);
        }
        check.end();
    }

    /** What a test throws is a wrong answer too: no call may ever throw. */
    static void runOne(Method method, Check check) {
        try {
            method.invoke(null);
        } catch (InvocationTargetException thrown) {
            check.holds(method.getName() + " throws nothing, not " + thrown.getCause(), false);
        } catch (IllegalAccessException thrown) {
            throw new IllegalStateException(thrown);
        }
    }

    /** Ends of lines, the document's own marks and blanks are all the same here. */
    static String plain(String text) {
        return text.replace("`", "").replaceAll("\\s+", " ");
    }
}
