import java.io.IOException;
import java.lang.reflect.InvocationTargetException;
import java.lang.reflect.Method;
import java.lang.reflect.Modifier;
import java.nio.file.Files;
import java.nio.file.Path;
import java.util.ArrayList;
import java.util.Arrays;
import java.util.List;
import java.util.Set;
import java.util.TreeSet;
import java.util.function.Supplier;
import java.util.regex.Matcher;
import java.util.regex.Pattern;
import java.util.stream.Collectors;
import java.util.stream.Stream;

/**
 * What README.md tells: the class answers so, and the tests run so. Runs in the project's folder, with sh, javac and
 * java as .ci/run does.
 */
public final class ReadmeTest {
    private static final Check C = new Check("ReadmeTest");
    private static final Path DOCUMENT = Path.of("../shared/DOC.md");
    private static final Pattern ANSWERED = Pattern.compile("(\\w[\\w.]*\\(.*\\));\\s+// (-?\\d+|BAD|STATE|FULL|TRAP|NONE): .+");
    private static final int WRONG = 7;
    private static final List<String> REFUSALS = List.of("BAD", "STATE", "FULL", "TRAP");
    private static final int[] ARGUMENTS = {Integer.MIN_VALUE, -1, 0, 1, 2, 4, 9, 60, 256, Integer.MAX_VALUE};

    public static void main(String[] args) throws IOException, InterruptedException {
        String page = Files.readString(Path.of("README.md"));
        Path folder = Files.createTempDirectory("readme");
        try {
            calls(page, folder);
            callTable(page);
            waysToRun(page, folder);
            testTable(page);
        } finally {
            remove(folder);
        }
        C.end();
    }

    private static List<String> blocks(String page, String language) {
        List<String> blocks = new ArrayList<>();
        Matcher block = Pattern.compile("(?s)```" + language + "\n(.*?)```").matcher(page);
        while (block.find()) {
            blocks.add(block.group(1));
        }
        return blocks;
    }

    // ---- the calls with their answers

    private static void calls(String page, Path folder) throws IOException, InterruptedException {
        StringBuilder methods = new StringBuilder();
        List<String> statements = new ArrayList<>();
        for (String block : blocks(page, "java")) {
            if (block.contains("static ")) {
                methods.append(block);
            } else {
                statements.addAll(block.lines().toList());
            }
        }
        C.holds("the page has calls", statements.size() > 1);
        answers("the calls on the page", methods.toString(), statements, folder, 0);
        // that a wrong answer on the page is seen: each number there is told one more
        List<String> spoiled = new ArrayList<>();
        for (String statement : statements) {
            Matcher answer = Pattern.compile("// (-?\\d+):").matcher(statement);
            spoiled.add(answer.replaceAll(found -> "// " + (Integer.parseInt(found.group(1)) + 1) + ":"));
        }
        answers("calls with answers that are wrong", methods.toString(), spoiled, folder, WRONG);
    }

    /** Runs a program that makes the calls; it ends with WRONG if one does not answer as told. */
    private static void answers(String what, String methods, List<String> statements, Path folder, int code)
            throws IOException, InterruptedException {
        StringBuilder text = new StringBuilder("public final class ReadmeUse {\n").append(methods);
        text.append("static boolean wrong;\nstatic void due(String call, int got, int want) {\n")
                .append("if (got != want) { wrong = true; System.out.println(call + \" answers \" + got + \", not \" + want); } }\n")
                .append("public static void main(String[] args) {\n");
        for (String statement : statements) {
            Matcher answered = ANSWERED.matcher(statement);
            boolean isCall = answered.matches();
            C.holds("told with an answer: " + statement, isCall || statement.equals("NeedCode x = new NeedCode();"));
            text.append(isCall ? dueOf(answered.group(1), answered.group(2)) : statement).append('\n');
        }
        text.append("System.exit(wrong ? " + WRONG + " : 0);\n}\n}\n");
        Files.writeString(folder.resolve("ReadmeUse.java"), text);
        run(what, "javac --release 17 -d out src/main/java/NeedCode.java out/ReadmeUse.java\njava -cp out ReadmeUse", folder, code);
    }

    private static String dueOf(String call, String answer) {
        String told = call.replace("\\", "\\\\").replace("\"", "\\\"");
        return "due(\"" + told + "\", " + call + ", " + (answer.matches("[A-Z]+") ? "NeedCode." : "") + answer + ");";
    }

    // ---- the table of calls

    private static void callTable(String page) throws IOException {
        String document = Files.exists(DOCUMENT) ? Files.readString(DOCUMENT) : null;
        Set<String> names = new TreeSet<>();
        for (Method method : NeedCode.class.getDeclaredMethods()) {
            if (Modifier.isPublic(method.getModifiers())) {
                names.add(method.getName());
                refusalsAreTold(method, page);
            }
        }
        Set<String> told = new TreeSet<>();
        Matcher row = Pattern.compile("(?m)^\\| `(\\w+)\\((.*?)\\)` \\|").matcher(page);
        while (row.find()) {
            told.add(row.group(1));
            String typed = row.group(2).isEmpty() ? "" : "int " + row.group(2).replace(", ", ", int ");
            String face = "public int " + row.group(1) + "(" + typed + ");";
            C.holds("the document has " + face, document == null || document.contains(face));
        }
        C.holds("all calls are told, and no other: " + told, told.equals(names));
    }

    private static void refusalsAreTold(Method method, String page) {
        Matcher row = Pattern.compile("(?m)^\\| `" + method.getName() + "\\(.*\\|([A-Z, ]*)\\|$").matcher(page);
        if (!row.find()) {
            return;
        }
        String column = row.group(1).trim();
        List<String> told = column.isEmpty() ? List.of() : Arrays.asList(column.split(", "));
        C.holds(method.getName() + " is refused by " + told + ", not " + seen(method), seen(method).equals(new TreeSet<>(told)));
        // no tree, and no argument as it should be: the first one that is told
        Object[] wild = new Object[method.getParameterCount()];
        Arrays.fill(wild, Integer.MAX_VALUE);
        String first = refusal(answer(method, new NeedCode(), wild));
        C.holds(method.getName() + " is refused first by " + first, told.isEmpty() ? first == null : told.get(0).equals(first));
    }

    /** The refusals that a call answers by some arguments in some states. */
    private static Set<String> seen(Method method) {
        List<Supplier<NeedCode>> states = List.of(NeedCode::new, ReadmeTest::withText, () -> Check.of("a/b"), ReadmeTest::withActs);
        Set<String> seen = new TreeSet<>();
        for (Supplier<NeedCode> state : states) {
            for (int at = 0; at < Math.max(1, method.getParameterCount()); at++) {
                for (int argument : ARGUMENTS) {
                    Object[] arguments = new Object[method.getParameterCount()];
                    Arrays.fill(arguments, 1);
                    if (at < arguments.length) {
                        arguments[at] = argument;
                    }
                    String refusal = refusal(answer(method, state.get(), arguments));
                    if (refusal != null) {
                        seen.add(refusal);
                    }
                }
            }
        }
        return seen;
    }

    private static NeedCode withText() {
        NeedCode x = new NeedCode();
        Check.type(x, "a".repeat(60));
        return x;
    }

    private static NeedCode withActs() {
        NeedCode x = Check.of("(a+b)*(a+b)-1");
        x.keep(1);
        x.exchange(2);
        x.let(0, 7);
        return x;
    }

    private static int answer(Method method, NeedCode x, Object[] arguments) {
        try {
            return (int) method.invoke(x, arguments);
        } catch (IllegalAccessException | InvocationTargetException thrown) {
            throw new IllegalStateException(method + " " + Arrays.toString(arguments), thrown);
        }
    }

    private static String refusal(int answer) {
        int[] numbers = {NeedCode.BAD, NeedCode.STATE, NeedCode.FULL, NeedCode.TRAP};
        for (int at = 0; at < numbers.length; at++) {
            if (numbers[at] == answer) {
                return REFUSALS.get(at);
            }
        }
        return null;
    }

    // ---- the tests

    /** .ci/run runs this test, so it is not run here. */
    private static void waysToRun(String page, Path folder) throws IOException, InterruptedException {
        List<String> ways = blocks(page, "sh");
        C.holds("the first way is .ci/run", !ways.isEmpty() && ways.get(0).equals(".ci/run\n"));
        C.holds(".ci/run can be run", Files.isExecutable(Path.of(".ci/run")));
        for (String way : ways.subList(Math.min(1, ways.size()), ways.size())) {
            C.holds("it names a folder for what it makes: " + way, way.contains("-d out"));
            if (sharedIsThere(way)) {
                run(way, way, folder, 0);
            }
        }
    }

    /** What stands under ../shared is not the project's own: the page may name a test there that has gone. */
    private static boolean sharedIsThere(String way) {
        Matcher file = Pattern.compile("\\.\\./shared/\\S+").matcher(way);
        while (file.find()) {
            if (!Files.exists(Path.of(file.group()))) {
                System.out.println("ReadmeTest: there is no " + file.group() + ", which README.md names: that way was not gone");
                return false;
            }
        }
        return true;
    }

    private static void testTable(String page) throws IOException {
        Set<String> told = new TreeSet<>();
        Matcher row = Pattern.compile("(?m)^\\| `(\\w+Test)` \\|").matcher(page);
        while (row.find()) {
            C.holds(row.group(1) + " is told once", told.add(row.group(1)));
        }
        try (Stream<Path> files = Files.list(Path.of("src/test/java"))) {
            Set<String> there = files.map(file -> file.getFileName().toString().replace(".java", ""))
                    .filter(name -> name.endsWith("Test")).collect(Collectors.toCollection(TreeSet::new));
            C.holds("the tests that are told are those that are there: " + there, told.equals(there));
        }
    }

    // ---- processes, files

    /** Runs commands in the project's folder; what they make does not come to out, but to a folder that goes away. */
    private static void run(String what, String commands, Path folder, int want) throws IOException, InterruptedException {
        String moved = commands.replaceAll("\\bout\\b", Matcher.quoteReplacement(folder.toString()));
        Path said = folder.resolve("said");
        Process process = new ProcessBuilder("sh", "-e", "-c", moved).redirectErrorStream(true).redirectOutput(said.toFile()).start();
        int code = process.waitFor();
        C.due("exit code of " + what, code, want);
        if (code != want) {
            System.out.println(Files.readString(said));
        }
    }

    private static void remove(Path folder) throws IOException {
        try (Stream<Path> all = Files.walk(folder)) {
            for (Path each : all.sorted((one, other) -> other.compareTo(one)).toList()) {
                Files.delete(each);
            }
        }
    }
}
