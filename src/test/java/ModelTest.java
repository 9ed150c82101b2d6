import java.util.Random;

/** Long runs of calls on the class and on the model, side by side; the seeds are fixed. */
public final class ModelTest {
    private static final Check CHECK = new Check("ModelTest");
    private static final int[] INTS = {
        0, 1, -1, 2, 3, 7, -5, 99, 1000, Integer.MAX_VALUE, Integer.MIN_VALUE, 1 << 30, -(1 << 30), 65536, 46341
    };

    private final Random random;
    private final NeedCode x = new NeedCode();
    private final Model model = new Model();

    private ModelTest(long seed) {
        random = new Random(seed);
    }

    public static void main(String[] args) {
        for (int seed = 0; seed < 700; seed++) {
            new ModelTest(seed).calls(500);
        }
        for (int seed = 0; seed < 500; seed++) {
            new ModelTest(seed + 10_000).wholeTree();
        }
        for (int seed = 0; seed < 500; seed++) {
            new ModelTest(seed + 20_000).faults();
        }
        CHECK.end();
    }

    private void due(String call, int got, int want) {
        CHECK.due(call, got, want);
    }

    // ---- texts

    private String anyOf(String letters) {
        return String.valueOf(letters.charAt(random.nextInt(letters.length())));
    }

    private String leaf(String names) {
        return random.nextInt(4) == 0 ? Integer.toString(random.nextInt(random.nextBoolean() ? 4 : 100)) : anyOf(names);
    }

    /** Few names and no traps make many parts that are alike. */
    private String expression(int leaves, String names, String operators) {
        if (random.nextInt(9) == 0) {
            return "~" + (leaves == 1 ? leaf(names) : "(" + expression(leaves, names, operators) + ")");
        }
        if (leaves == 1) {
            return leaf(names);
        }
        int left = 1 + random.nextInt(leaves - 1);
        String l = expression(left, names, operators);
        String r = left * 2 == leaves && random.nextInt(3) == 0 ? l : expression(leaves - left, names, operators);
        return braced(l) + anyOf(operators) + braced(r);
    }

    private String braced(String text) {
        return text.length() > 2 && random.nextInt(5) > 0 ? "(" + text + ")" : text;
    }

    private String anyText() {
        String names = anyOf("ab").equals("a") ? "ab" : "abcdefgh";
        String[] kinds = {"+-*", "+*", "+-*/#", "/#", "-*+++///"};
        String operators = kinds[random.nextInt(kinds.length)];
        String text = "";
        for (int tries = 0; tries < 20; tries++) {
            text = expression(1 + random.nextInt(15), names, operators);
            if (text.length() <= 60) {
                break;
            }
        }
        return text;
    }

    private String spoiled(String text) {
        StringBuilder told = new StringBuilder(text);
        for (int times = random.nextInt(3); times >= 0; times--) {
            int at = random.nextInt(told.length() + 1);
            int act = random.nextInt(3);
            if (act == 0 && at < told.length()) {
                told.deleteCharAt(at);
            } else if (act == 1) {
                told.insert(at, random.nextInt(4) == 0 ? String.valueOf((char) random.nextInt(256)) : anyOf(" ()~0129ahi+-*/#"));
            } else {
                told.insert(at, " ");
            }
        }
        return told.toString();
    }

    private void type(String text) {
        for (int at = 0; at < text.length(); at++) {
            int letter = text.charAt(at);
            due("type(" + letter + ")", x.type(letter), model.type(letter));
        }
    }

    private void read(String text) {
        due("clear()", x.clear(), model.clear());
        type(text);
        due("tree() of " + text, x.tree(), model.tree());
    }

    // ---- runs

    private int about(int most) {
        return random.nextInt(most + 3) - 1;
    }

    private void calls(int times) {
        for (int call = 0; call < times; call++) {
            switch (random.nextInt(14)) {
                case 0: read(random.nextInt(4) == 0 ? spoiled(anyText()) : anyText()); break;
                case 1: act(); break;
                case 2: act(); break;
                case 3: image(); break;
                default: ask(); break;
            }
            due("asked()", x.asked(), model.asked());
            due("trapped()", x.trapped(), model.trapped());
        }
    }

    private void act() {
        int k = about(16);
        int name = random.nextInt(9) == 0 ? about(8) : random.nextInt(8);
        int v = INTS[random.nextInt(INTS.length)];
        switch (random.nextInt(6)) {
            case 0: due("undo()", x.undo(), model.undo()); break;
            case 1: machine(); break;
            case 2: case 3: due("exchange(" + k + ")", x.exchange(k), model.exchange(k)); break;
            default: due("let(" + name + ", " + v + ")", x.let(name, v), model.let(name, v)); break;
        }
    }

    private void machine() {
        int[] m = new int[5];
        for (int at = 0; at < 5; at++) {
            m[at] = 1 + random.nextInt(at == 0 ? 6 : 9);
        }
        if (random.nextInt(8) == 0) {
            m[random.nextInt(5)] = random.nextInt(12);
        }
        due("machine(..)", x.machine(m[0], m[1], m[2], m[3], m[4]), model.machine(m));
    }

    private void image() {
        int image = random.nextInt(5) == 0 ? about(1) : random.nextInt(2);
        if (random.nextBoolean()) {
            due("keep(" + image + ")", x.keep(image), model.keep(image));
        } else {
            due("back(" + image + ")", x.back(image), model.back(image));
        }
    }

    private void ask() {
        int k = about(24);
        int i = about(6);
        int what = about(8);
        switch (random.nextInt(11)) {
            case 0: due("node(" + k + ", " + what + ")", x.node(k, what), model.node(k, what)); break;
            case 1: due("value(" + k + ")", x.value(k), model.value(k)); break;
            case 2: due("cost(" + k + ", " + i + ")", x.cost(k, i), model.cost(k, i)); break;
            case 3: due("way(" + k + ", " + i + ")", x.way(k, i), model.way(k, i)); break;
            case 4: due("program(" + i + ", " + what + ")", x.program(i, what % 4), model.program(i, what % 4)); break;
            case 5: due("line(" + k + ", " + what + ")", x.line(k, what % 6), model.line(k, what % 6)); break;
            case 6: due("run(" + k + ")", x.run(k), model.run(k)); break;
            case 7: due("fewest()", x.fewest(), model.fewest()); break;
            case 8: due("shared(" + i + ", " + what + ")", x.shared(i, what % 3), model.shared(i, what % 3)); break;
            case 9: due("cheapest(" + what + ")", x.cheapest(what % 3), model.cheapest(what % 3)); break;
            default: due("count(" + what + ")", x.count(what), model.count(what)); break;
        }
    }

    /** Everything that can be told of one tree by one machine, ahead of and behind exchanges. */
    private void wholeTree() {
        read(anyText());
        machine();
        for (int name = 0; name < 8; name++) {
            int v = random.nextInt(3) == 0 ? INTS[random.nextInt(INTS.length)] : random.nextInt(9) - 2;
            due("let", x.let(name, v), model.let(name, v));
        }
        tellAll();
        for (int times = 0; times < 4; times++) {
            int k = random.nextInt(31);
            due("exchange(" + k + ")", x.exchange(k), model.exchange(k));
        }
        tellAll();
    }

    private void tellAll() {
        for (int k = -1; k <= model.count(0); k++) {
            for (int what = -1; what <= 9; what++) {
                due("node(" + k + ", " + what + ")", x.node(k, what), model.node(k, what));
            }
            for (int i = 0; i <= 7; i++) {
                due("cost(" + k + ", " + i + ")", x.cost(k, i), model.cost(k, i));
                due("way(" + k + ", " + i + ")", x.way(k, i), model.way(k, i));
            }
            due("value(" + k + ")", x.value(k), model.value(k));
            due("asked()", x.asked(), model.asked());
            due("trapped()", x.trapped(), model.trapped());
        }
        for (int i = 0; i <= 7; i++) {
            for (int what = -1; what <= 3; what++) {
                due("program(" + i + ", " + what + ")", x.program(i, what), model.program(i, what));
                due("shared(" + i + ", " + what + ")", x.shared(i, what), model.shared(i, what));
            }
        }
        due("fewest()", x.fewest(), model.fewest());
        due("cheapest(0)", x.cheapest(0), model.cheapest(0));
        due("cheapest(1)", x.cheapest(1), model.cheapest(1));
        int lines = model.program(model.count(1), 0);
        for (int j = -1; j <= lines + 1; j++) {
            for (int what = -1; what <= 5; what++) {
                due("line(" + j + ", " + what + ")", x.line(j, what), model.line(j, what));
            }
            due("run(" + j + ")", x.run(j), model.run(j));
            due("asked()", x.asked(), model.asked());
            due("trapped()", x.trapped(), model.trapped());
        }
    }

    /** Texts near the limits of letters and NODES, spoiled. */
    private void faults() {
        for (int times = 0; times < 20; times++) {
            StringBuilder text = new StringBuilder(leaf("abcdefgh"));
            int leaves = 13 + random.nextInt(5);
            for (int leaf = 1; leaf < leaves; leaf++) {
                text.append(anyOf("+-*/#")).append(random.nextInt(12) == 0 ? "~" : "").append(anyOf("abcdefgh"));
            }
            for (int braces = random.nextInt(4); braces > 0; braces--) {
                text.insert(0, "(").append(")");
            }
            read(random.nextBoolean() ? spoiled(text.toString()) : text.toString());
            due("count(0)", x.count(0), model.count(0));
            due("count(7)", x.count(7), model.count(7));
        }
    }
}
