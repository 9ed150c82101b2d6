import java.io.ByteArrayOutputStream;
import java.io.IOException;
import java.io.OutputStream;
import java.io.StringWriter;
import java.lang.reflect.Field;
import java.lang.reflect.InvocationTargetException;
import java.lang.reflect.Method;
import java.net.URI;
import java.nio.file.Files;
import java.nio.file.Path;
import java.util.ArrayList;
import java.util.HashMap;
import java.util.List;
import java.util.Map;
import java.util.Set;
import java.util.TreeSet;
import javax.tools.FileObject;
import javax.tools.ForwardingJavaFileManager;
import javax.tools.JavaCompiler;
import javax.tools.JavaFileManager;
import javax.tools.JavaFileObject;
import javax.tools.SimpleJavaFileObject;
import javax.tools.ToolProvider;

/**
 * Breaks each sentence of the document in the class's source, as breaks.txt tells, and looks whether the test that
 * stands for the sentence fails then. Runs in the project's folder.
 */
public final class BreaksTest {
    private static final Check C = new Check("BreaksTest");
    private static final Path SOURCE = Path.of("src/main/java/NeedCode.java");
    private static final Path BREAKS = Path.of("src/test/breaks.txt");
    private static final List<Class<?>> TESTS = List.of(TextSentencesTest.class, MachineSentencesTest.class,
            ActsSentencesTest.class, PromiseSentencesTest.class, RefusalSentencesTest.class);

    private static final class Break {
        final String test;
        final int line;
        final List<String> old = new ArrayList<>();
        final List<String> put = new ArrayList<>();
        final List<Integer> putBehind = new ArrayList<>();

        Break(String test, int line) {
            this.test = test;
            this.line = line;
        }

        String className() {
            return test.substring(0, test.indexOf('.')) + "SentencesTest";
        }

        String methodName() {
            return test.substring(test.indexOf('.') + 1);
        }

        String told() {
            return BREAKS + ":" + line + " (" + test + ")";
        }
    }

    public static void main(String[] args) throws IOException {
        JavaCompiler compiler = ToolProvider.getSystemJavaCompiler();
        if (compiler == null) {
            System.out.println("BreaksTest: this Java has no compiler of its own, nothing was looked at");
            return;
        }
        List<String> source = Files.readAllLines(SOURCE);
        List<Break> breaks = readBreaks();
        Set<String> broken = new TreeSet<>();
        for (Break each : breaks) {
            broken.add(each.className() + "." + each.methodName());
            String text = brokenText(source, each);
            C.holds(each.told() + " stands in the source, once", text != null);
            if (text != null) {
                Map<String, byte[]> classes = compile(compiler, text);
                C.holds(each.told() + " compiles", classes != null);
                C.holds(each.told() + " is found by its test", classes == null || wrongBy(classes, each) > 0);
            }
        }
        for (Class<?> test : TESTS) {
            for (Method method : Sentences.of(test)) {
                String name = test.getName() + "." + method.getName();
                C.holds(name + " is told a way to break its sentence", broken.contains(name));
            }
        }
        C.end();
    }

    // ---- breaks

    private static List<Break> readBreaks() throws IOException {
        List<Break> breaks = new ArrayList<>();
        Break now = null;
        int line = 0;
        for (String text : Files.readAllLines(BREAKS)) {
            line++;
            if (text.startsWith("== ")) {
                now = new Break(text.substring(3).trim(), line);
                breaks.add(now);
            } else if (now != null && text.startsWith("- ")) {
                now.old.add(text.substring(2).trim());
            } else if (now != null && text.startsWith("+ ")) {
                now.put.add(text.substring(2));
                now.putBehind.add(now.old.size());
            }
        }
        return breaks;
    }

    /** A break may have several places: a row of old lines with what comes for them, then another row. */
    private static String brokenText(List<String> source, Break each) {
        List<String> text = new ArrayList<>(source);
        int from = 0;
        while (from < each.old.size()) {
            int to = endOfRow(each, from);
            int at = onlyPlace(text, each.old.subList(from, to));
            if (at < 0) {
                return null;
            }
            for (int gone = from; gone < to; gone++) {
                text.remove(at);
            }
            for (int n = each.put.size() - 1; n >= 0; n--) {
                if (each.putBehind.get(n) == to) {
                    text.add(at, each.put.get(n));
                }
            }
            from = to;
        }
        return String.join("\n", text);
    }

    private static int endOfRow(Break each, int from) {
        int end = each.old.size();
        for (int behind : each.putBehind) {
            if (behind > from && behind < end) {
                end = behind;
            }
        }
        return end;
    }

    private static int onlyPlace(List<String> text, List<String> old) {
        int place = -1;
        for (int at = 0; at + old.size() <= text.size(); at++) {
            boolean same = true;
            for (int n = 0; n < old.size(); n++) {
                same &= text.get(at + n).trim().equals(old.get(n));
            }
            if (same && place >= 0) {
                return -1;
            }
            place = same ? at : place;
        }
        return place;
    }

    // ---- compiling, running

    private static final class Text extends SimpleJavaFileObject {
        private final String text;

        Text(String text) {
            super(URI.create("string:///NeedCode.java"), Kind.SOURCE);
            this.text = text;
        }

        @Override
        public CharSequence getCharContent(boolean ignoreEncodingErrors) {
            return text;
        }
    }

    private static final class Bytes extends SimpleJavaFileObject {
        private final ByteArrayOutputStream bytes = new ByteArrayOutputStream();

        Bytes(String name) {
            super(URI.create("mem:///" + name + ".class"), Kind.CLASS);
        }

        @Override
        public OutputStream openOutputStream() {
            return bytes;
        }
    }

    private static final class Memory extends ForwardingJavaFileManager<JavaFileManager> {
        private final Map<String, Bytes> made = new HashMap<>();

        Memory(JavaFileManager files) {
            super(files);
        }

        @Override
        public JavaFileObject getJavaFileForOutput(Location location, String name, JavaFileObject.Kind kind, FileObject sibling) {
            Bytes bytes = new Bytes(name);
            made.put(name, bytes);
            return bytes;
        }
    }

    private static Map<String, byte[]> compile(JavaCompiler compiler, String text) throws IOException {
        try (Memory memory = new Memory(compiler.getStandardFileManager(null, null, null))) {
            StringWriter said = new StringWriter();
            boolean fine = compiler.getTask(said, memory, null, List.of("-proc:none", "-nowarn"), null, List.of(new Text(text))).call();
            if (!fine) {
                System.out.println(said);
                return null;
            }
            Map<String, byte[]> classes = new HashMap<>();
            for (Map.Entry<String, Bytes> each : memory.made.entrySet()) {
                classes.put(each.getKey(), each.getValue().bytes.toByteArray());
            }
            return classes;
        }
    }

    /** The broken class and the project's tests, apart from those that run here. */
    private static final class Apart extends ClassLoader {
        private final Map<String, byte[]> classes;

        Apart(Map<String, byte[]> classes) {
            super(ClassLoader.getPlatformClassLoader());
            this.classes = classes;
        }

        @Override
        protected Class<?> findClass(String name) throws ClassNotFoundException {
            byte[] bytes = classes.get(name);
            if (bytes == null) {
                bytes = bytesOf(name);
            }
            return defineClass(name, bytes, 0, bytes.length);
        }

        private static byte[] bytesOf(String name) throws ClassNotFoundException {
            try (var stream = BreaksTest.class.getResourceAsStream("/" + name.replace('.', '/') + ".class")) {
                if (stream == null) {
                    throw new ClassNotFoundException(name);
                }
                return stream.readAllBytes();
            } catch (IOException thrown) {
                throw new ClassNotFoundException(name, thrown);
            }
        }
    }

    private static int wrongBy(Map<String, byte[]> classes, Break each) {
        try {
            ClassLoader apart = new Apart(classes);
            Class<?> test = apart.loadClass(each.className());
            Field field = test.getDeclaredField("C");
            field.setAccessible(true);
            Object check = field.get(null);
            open(check.getClass().getDeclaredMethod("beQuiet")).invoke(check);
            Method runOne = open(apart.loadClass("Sentences").getDeclaredMethod("runOne", Method.class, check.getClass()));
            runOne.invoke(null, open(test.getDeclaredMethod(each.methodName())), check);
            return (int) open(check.getClass().getDeclaredMethod("wrong")).invoke(check);
        } catch (ClassNotFoundException | NoSuchFieldException | NoSuchMethodException | IllegalAccessException thrown) {
            C.holds(each.told() + " names a test that there is", false);
            return 1;
        } catch (InvocationTargetException thrown) {
            throw new IllegalStateException(each.told(), thrown.getCause());
        }
    }

    private static Method open(Method method) {
        method.setAccessible(true);
        return method;
    }
}
