import java.util.ArrayList;
import java.util.List;
import java.util.Random;
import java.util.function.Consumer;

/** Long runs of calls on the class and on the model, side by side; the seeds are fixed. No object has more than 512 calls. */
public final class ModelTest {
    private static final Check CHECK = new Check("ModelTest");
    private static final int[] INTS = {
        0, 1, -1, 2, 3, 7, -5, 99, 1000, Integer.MAX_VALUE, Integer.MIN_VALUE, 1 << 30, -(1 << 30), 65536, 46341
    };

    private static final int CALL_LIMIT = 512;

    private final Random random;
    private final Model model = new Model();
    private final List<Consumer<NeedCode>> past = new ArrayList<>();
    private NeedCode x = new NeedCode();
    private int made;

    private ModelTest(long seed) {
        random = new Random(seed);
    }

    public static void main(String[] args) {
        for (int seed = 0; seed < 3000; seed++) {
            new ModelTest(seed).calls();
        }
        for (int seed = 0; seed < 500; seed++) {
            new ModelTest(seed + 10_000).wholeTree();
        }
        for (int seed = 0; seed < 500; seed++) {
            new ModelTest(seed + 20_000).faults();
        }
        everyShortText();
        CHECK.end();
    }

    private void due(String call, int got, int want) {
        made++;
        CHECK.due(call, got, want);
    }

    /** Another object with the same past takes over where one has had nearly all its calls. */
    private void makeRoom(int calls) {
        if (made + calls > CALL_LIMIT) {
            x = new NeedCode();
            made = past.size();
            for (Consumer<NeedCode> call : past) {
                call.accept(x);
            }
        }
    }

    // ---- texts

    private String anyOf(String letters) {
        return String.valueOf(letters.charAt(random.nextInt(letters.length())));
    }

    private String leaf(String names) {
        return random.nextInt(4) == 0 ? Integer.toString(random.nextInt(random.nextBoolean() ? 4 : 100)) : anyOf(names);
    }

    /** Few names and no traps make many parts that are alike. */
    private String expression(int leaves, String names, String operators) {
        if (random.nextInt(9) == 0) {
            return "~" + (leaves == 1 ? leaf(names) : "(" + expression(leaves, names, operators) + ")");
        }
        if (leaves == 1) {
            return leaf(names);
        }
        int left = 1 + random.nextInt(leaves - 1);
        String l = expression(left, names, operators);
        String r = left * 2 == leaves && random.nextInt(3) == 0 ? l : expression(leaves - left, names, operators);
        return braced(l) + anyOf(operators) + braced(r);
    }

    private String braced(String text) {
        return text.length() > 2 && random.nextInt(5) > 0 ? "(" + text + ")" : text;
    }

    private String anyText() {
        String names = anyOf("ab").equals("a") ? "ab" : "abcdefgh";
        String[] kinds = {"+-*", "+*", "+-*/#", "/#", "-*+++///"};
        String operators = kinds[random.nextInt(kinds.length)];
        String text = "";
        for (int tries = 0; tries < 20; tries++) {
            text = expression(1 + random.nextInt(15), names, operators);
            if (text.length() <= 60) {
                break;
            }
        }
        return text;
    }

    private String spoiled(String text) {
        StringBuilder told = new StringBuilder(text);
        for (int times = random.nextInt(3); times >= 0; times--) {
            int at = random.nextInt(told.length() + 1);
            int act = random.nextInt(3);
            if (act == 0 && at < told.length()) {
                told.deleteCharAt(at);
            } else if (act == 1) {
                told.insert(at, random.nextInt(4) == 0 ? String.valueOf((char) random.nextInt(256)) : anyOf(" ()~0129ahi+-*/#"));
            } else {
                told.insert(at, " ");
            }
        }
        return told.toString();
    }

    private void type(String text) {
        for (int at = 0; at < text.length(); at++) {
            int letter = text.charAt(at);
            past.add(other -> other.type(letter));
            due("type(" + letter + ")", x.type(letter), model.type(letter));
        }
    }

    private void read(String text) {
        past.add(NeedCode::clear);
        due("clear()", x.clear(), model.clear());
        type(text);
        past.add(NeedCode::tree);
        due("tree() of " + text, x.tree(), model.tree());
    }

    // ---- runs

    private int about(int most) {
        return random.nextInt(most + 3) - 1;
    }

    private void calls() {
        if (random.nextInt(5) > 0) {
            read(anyText());
        }
        while (made <= CALL_LIMIT - 72) {
            int lot = random.nextInt(60);
            if (lot == 0) {
                read(random.nextInt(3) == 0 ? spoiled(anyText()) : anyText());
            } else if (lot < 18) {
                act();
            } else if (lot < 21) {
                image();
            } else {
                ask();
            }
            due("asked()", x.asked(), model.asked());
            due("trapped()", x.trapped(), model.trapped());
        }
    }

    private void act() {
        int k = about(16);
        int name = random.nextInt(9) == 0 ? about(8) : random.nextInt(8);
        int v = INTS[random.nextInt(INTS.length)];
        switch (random.nextInt(6)) {
            case 0: due("undo()", x.undo(), model.undo()); break;
            case 1: machine(); break;
            case 2: case 3: due("exchange(" + k + ")", x.exchange(k), model.exchange(k)); break;
            default: due("let(" + name + ", " + v + ")", x.let(name, v), model.let(name, v)); break;
        }
    }

    private void machine() {
        int[] m = new int[5];
        for (int at = 0; at < 5; at++) {
            m[at] = 1 + random.nextInt(at == 0 ? 6 : 9);
        }
        if (random.nextInt(8) == 0) {
            m[random.nextInt(5)] = random.nextInt(12);
        }
        past.add(other -> other.machine(m[0], m[1], m[2], m[3], m[4]));
        due("machine(..)", x.machine(m[0], m[1], m[2], m[3], m[4]), model.machine(m));
    }

    private void image() {
        int image = random.nextInt(5) == 0 ? about(1) : random.nextInt(2);
        if (random.nextBoolean()) {
            due("keep(" + image + ")", x.keep(image), model.keep(image));
        } else {
            due("back(" + image + ")", x.back(image), model.back(image));
        }
    }

    private void ask() {
        int k = about(24);
        int i = about(6);
        int what = about(8);
        switch (random.nextInt(11)) {
            case 0: due("node(" + k + ", " + what + ")", x.node(k, what), model.node(k, what)); break;
            case 1: due("value(" + k + ")", x.value(k), model.value(k)); break;
            case 2: due("cost(" + k + ", " + i + ")", x.cost(k, i), model.cost(k, i)); break;
            case 3: due("way(" + k + ", " + i + ")", x.way(k, i), model.way(k, i)); break;
            case 4: due("program(" + i + ", " + what + ")", x.program(i, what % 4), model.program(i, what % 4)); break;
            case 5: due("line(" + k + ", " + what + ")", x.line(k, what % 6), model.line(k, what % 6)); break;
            case 6: due("run(" + k + ")", x.run(k), model.run(k)); break;
            case 7: due("fewest()", x.fewest(), model.fewest()); break;
            case 8: due("shared(" + i + ", " + what + ")", x.shared(i, what % 3), model.shared(i, what % 3)); break;
            case 9: due("cheapest(" + what + ")", x.cheapest(what % 3), model.cheapest(what % 3)); break;
            default: due("count(" + what + ")", x.count(what), model.count(what)); break;
        }
    }

    /** Everything that can be told of one tree by one machine, ahead of and behind exchanges. */
    private void wholeTree() {
        read(anyText());
        machine();
        for (int each = 0; each < 8; each++) {
            int name = each;
            int v = random.nextInt(3) == 0 ? INTS[random.nextInt(INTS.length)] : random.nextInt(9) - 2;
            past.add(other -> other.let(name, v));
            due("let", x.let(name, v), model.let(name, v));
        }
        tellAll();
        makeRoom(CALL_LIMIT);
        for (int times = 0; times < 4; times++) {
            int k = random.nextInt(31);
            past.add(other -> other.exchange(k));
            due("exchange(" + k + ")", x.exchange(k), model.exchange(k));
        }
        tellAll();
    }

    private void tellAll() {
        for (int k = -1; k <= model.count(0); k++) {
            makeRoom(40);
            for (int what = -1; what <= 9; what++) {
                due("node(" + k + ", " + what + ")", x.node(k, what), model.node(k, what));
            }
            for (int i = 0; i <= 7; i++) {
                due("cost(" + k + ", " + i + ")", x.cost(k, i), model.cost(k, i));
                due("way(" + k + ", " + i + ")", x.way(k, i), model.way(k, i));
            }
            tell("value(" + k + ")", x.value(k), model.value(k));
        }
        makeRoom(90);
        for (int i = 0; i <= 7; i++) {
            for (int what = -1; what <= 3; what++) {
                due("program(" + i + ", " + what + ")", x.program(i, what), model.program(i, what));
                due("shared(" + i + ", " + what + ")", x.shared(i, what), model.shared(i, what));
            }
        }
        due("fewest()", x.fewest(), model.fewest());
        due("cheapest(0)", x.cheapest(0), model.cheapest(0));
        due("cheapest(1)", x.cheapest(1), model.cheapest(1));
        int lines = model.program(model.count(1), 0);
        for (int j = -1; j <= lines + 1; j++) {
            makeRoom(20);
            for (int what = -1; what <= 5; what++) {
                due("line(" + j + ", " + what + ")", x.line(j, what), model.line(j, what));
            }
            tell("run(" + j + ")", x.run(j), model.run(j));
        }
    }

    /** What a call told: of an object that took over, only what this one did is known. */
    private void tell(String call, int got, int want) {
        due(call, got, want);
        if (want == 1) {
            due("asked() behind " + call, x.asked(), model.asked());
        } else if (want == Model.TRAP) {
            due("trapped() behind " + call, x.trapped(), model.trapped());
        }
    }

    /** Every text of up to five letters of each kind that there is. */
    private static void everyShortText() {
        String letters = " ()~019a+*;";
        int texts = 1;
        for (int length = 0; length <= 5; length++) {
            for (int number = 0; number < texts; number++) {
                StringBuilder text = new StringBuilder();
                for (int rest = number; text.length() < length; rest /= letters.length()) {
                    text.append(letters.charAt(rest % letters.length()));
                }
                new ModelTest(0).read(text.toString());
            }
            texts *= letters.length();
        }
    }

    /** Texts near the limits of letters and NODES, spoiled. */
    private void faults() {
        for (int times = 0; times < 20; times++) {
            StringBuilder text = new StringBuilder(leaf("abcdefgh"));
            int leaves = 13 + random.nextInt(5);
            for (int leaf = 1; leaf < leaves; leaf++) {
                text.append(anyOf("+-*/#")).append(random.nextInt(12) == 0 ? "~" : "").append(anyOf("abcdefgh"));
            }
            for (int braces = random.nextInt(4); braces > 0; braces--) {
                text.insert(0, "(").append(")");
            }
            if (made + 66 > CALL_LIMIT) {
                return;
            }
            read(random.nextBoolean() ? spoiled(text.toString()) : text.toString());
            due("count(0)", x.count(0), model.count(0));
            due("count(7)", x.count(7), model.count(7));
        }
    }
}
