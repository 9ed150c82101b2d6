import java.io.DataInputStream;
import java.io.IOException;
import java.lang.reflect.Field;
import java.lang.reflect.Method;
import java.lang.reflect.Modifier;
import java.nio.file.Files;
import java.nio.file.Path;
import java.util.ArrayList;
import java.util.HashSet;
import java.util.List;
import java.util.Set;
import java.util.TreeSet;
import java.util.regex.Matcher;
import java.util.regex.Pattern;

/** Rules of LANGUAGE.md that can be looked at from outside; runs in the project's folder. */
public final class LanguageTest {
    private static final Check C = new Check("LanguageTest");
    private static final Set<String> FACE = Set.of("type", "clear", "tree", "node", "value", "cost", "way", "program",
            "line", "run", "fewest", "exchange", "let", "machine", "undo", "shared", "cheapest", "keep", "back", "asked",
            "trapped", "count");
    private static final Set<String> LIBRARY = Set.of("java/lang/Object.<init>", "java/lang/Math.max", "java/lang/Math.min",
            "java/lang/System.arraycopy");

    public static void main(String[] args) throws IOException {
        face();
        for (Class<?> inner : NeedCode.class.getDeclaredClasses()) {
            C.holds(inner + " is static", Modifier.isStatic(inner.getModifiers()));
            C.holds(inner + " is not public", !Modifier.isPublic(inner.getModifiers()));
            members(inner);
            library(inner);
            for (Method method : inner.getDeclaredMethods()) {
                C.holds(method + " has a name of its own", !FACE.contains(method.getName()));
            }
        }
        library(NeedCode.class);
        C.holds("at most twelve classes", NeedCode.class.getDeclaredClasses().length < 12);
        source(Files.readString(Path.of("src/main/java/NeedCode.java")));
        C.end();
    }

    private static void face() {
        Set<String> open = new TreeSet<>();
        for (Method method : NeedCode.class.getDeclaredMethods()) {
            if (Modifier.isPublic(method.getModifiers())) {
                open.add(method.getName());
                C.holds(method + " answers an int", method.getReturnType() == int.class);
            } else {
                C.holds(method + " is private", Modifier.isPrivate(method.getModifiers()));
                C.holds(method + " has a name of its own", !FACE.contains(method.getName()));
            }
        }
        C.holds("the face is as told: " + open, open.equals(new TreeSet<>(FACE)));
        C.holds("no method bears a name twice", open.size() == FACE.size());
        Set<String> fields = new HashSet<>();
        for (Field field : NeedCode.class.getDeclaredFields()) {
            if (Modifier.isPublic(field.getModifiers())) {
                fields.add(field.getName());
            } else {
                C.holds(field + " is private", Modifier.isPrivate(field.getModifiers()));
            }
        }
        C.holds("the constants are as told", fields.equals(Set.of("BAD", "STATE", "FULL", "TRAP", "NONE")));
        C.holds("one constructor", NeedCode.class.getConstructors().length == 1);
        C.holds("final", Modifier.isFinal(NeedCode.class.getModifiers()));
        members(NeedCode.class);
    }

    private static void members(Class<?> type) {
        int held = 0;
        for (Field field : type.getDeclaredFields()) {
            boolean isStatic = Modifier.isStatic(field.getModifiers());
            held += isStatic ? 0 : 1;
            C.holds(field + " is final if it is static", !isStatic || Modifier.isFinal(field.getModifiers()));
        }
        C.holds(type + " has at most twenty fields", held <= 20);
        for (Method method : type.getDeclaredMethods()) {
            C.holds(method + " takes at most seven", method.getParameterCount() <= 7);
        }
    }

    /** What a compiled class takes from outside stands in its table of constants. */
    private static void library(Class<?> type) throws IOException {
        for (String taken : takenBy(type)) {
            boolean own = taken.startsWith("NeedCode.") || taken.startsWith("NeedCode$");
            C.holds(type + " may use " + taken, own || LIBRARY.contains(taken));
        }
    }

    private static Set<String> takenBy(Class<?> type) throws IOException {
        try (DataInputStream in = new DataInputStream(type.getResourceAsStream("/" + type.getName() + ".class"))) {
            in.readInt();
            in.readInt();
            int length = in.readUnsignedShort();
            String[] texts = new String[length];
            int[] firsts = new int[length];
            int[] seconds = new int[length];
            List<Integer> members = new ArrayList<>();
            for (int at = 1; at < length; at++) {
                int tag = in.readUnsignedByte();
                switch (tag) {
                    case 1: texts[at] = in.readUTF(); break;
                    case 3: case 4: in.readInt(); break;
                    case 5: case 6: in.readLong(); at++; break;
                    case 7: case 8: firsts[at] = in.readUnsignedShort(); break;
                    case 9: case 10: case 11: case 12:
                        firsts[at] = in.readUnsignedShort();
                        seconds[at] = in.readUnsignedShort();
                        break;
                    default: throw new IOException(type + " has a constant of kind " + tag + ": a lambda, or texts joined by +");
                }
                if (tag >= 9 && tag <= 11) {
                    members.add(at);
                }
            }
            Set<String> taken = new TreeSet<>();
            for (int at : members) {
                taken.add(texts[firsts[firsts[at]]] + "." + texts[firsts[seconds[at]]]);
            }
            return taken;
        }
    }

    private static void source(String source) {
        String code = source.replaceAll("(?s)/\\*.*?\\*/", "").replaceAll("//.*", "");
        List<String> ruledOut = List.of("throw", "throws", "try", "catch", "finally", "synchronized", "assert", "import",
                "package", "Exception", "hashCode", "toString", "equals", "Random", "Thread", "native", "strictfp");
        for (String word : ruledOut) {
            C.holds("no " + word, !Pattern.compile("\\b" + word + "\\b").matcher(code).find());
        }
        C.holds("no lambda", !code.contains("->"));
        C.holds("no method reference", !code.contains("::"));
        C.holds("of the system only arraycopy", !code.replace("System.arraycopy", "").contains("System"));
        C.holds("letters up to 127", source.chars().allMatch(letter -> letter < 127));
        methodsAreShort(code);
    }

    private static void methodsAreShort(String code) {
        Matcher method = Pattern.compile("(?m)^( {4}| {8})\\S[^=;]*\\) \\{$").matcher(code);
        while (method.find()) {
            int end = code.indexOf("\n" + method.group(1) + "}", method.end());
            long lines = code.substring(method.start(), Math.max(end, method.start())).lines().count();
            C.holds(method.group().trim() + " has " + lines + " lines", lines <= 60);
        }
    }
}
