import java.io.IOException;
import java.util.ArrayList;
import java.util.List;
import java.util.function.Consumer;
import java.util.function.ToIntFunction;

/** What is refused changes nothing: two objects with the same past, one of which was refused something. */
public final class RefusalSentencesTest {
    static final Check C = new Check("RefusalSentencesTest");
    private static final int BAD = NeedCode.BAD;
    private static final int STATE = NeedCode.STATE;
    private static final int FULL = NeedCode.FULL;
    private static final int TRAP = NeedCode.TRAP;

    public static void main(String[] args) throws IOException {
        Sentences.runAll(RefusalSentencesTest.class, C);
    }

    /** All that can be told of an object; telling uses it up. */
    private static List<Integer> portrait(NeedCode x) {
        List<Integer> told = new ArrayList<>();
        told.add(x.asked());
        told.add(x.trapped());
        tellTree(x, told);
        for (int more = x.count(8); more > 0; more--) {
            told.add(x.undo());
            told.add(x.count(1) * 10 + x.count(2));
            told.add(x.node(0, 0));
            told.add(x.value(x.count(0) - 1));
            told.add(x.asked());
            told.add(x.trapped());
        }
        tellNames(x, told);
        for (int image = 0; image <= 1; image++) {
            told.add(x.back(image));
            tellTree(x, told);
            tellNames(x, told);
        }
        told.add(x.tree());
        told.add(x.clear());
        tellTree(x, told);
        return told;
    }

    private static void tellTree(NeedCode x, List<Integer> told) {
        for (int what = 0; what <= 8; what++) {
            told.add(x.count(what));
        }
        for (int k = 0; k < x.count(0); k++) {
            told.add(x.node(k, 0));
            told.add(x.node(k, 1));
            told.add(x.node(k, 2));
        }
        for (int j = 0; j < 4; j++) {
            told.add(x.line(j, 2));
        }
        told.add(x.cheapest(0));
        told.add(x.shared(0, 0));
    }

    private static void tellNames(NeedCode x, List<Integer> told) {
        for (int name = 0; name < 8; name++) {
            x.let(name, 0);
            told.add(x.asked());
        }
    }

    /** The same past for both; then one of them is refused a call. */
    private static void refused(String call, Consumer<NeedCode> past, ToIntFunction<NeedCode> refusal, int answer) {
        NeedCode one = new NeedCode();
        NeedCode other = new NeedCode();
        past.accept(one);
        past.accept(other);
        C.due(call, refusal.applyAsInt(one), answer);
        List<Integer> changed = portrait(one);
        List<Integer> same = portrait(other);
        C.holds(call + " changes nothing: " + same + ", then " + changed, changed.equals(same));
    }

    // ---- pasts

    /** Five letters that are no expression, nothing else. */
    private static void fresh(NeedCode x) {
        Check.type(x, "(a+b;");
    }

    /** A tree, both images, NAMES and a MACHINE that differ from those, four acts, two letters, a TRAP. */
    private static void busy(NeedCode x) {
        Check.read(x, "(a/b)+~c-~c");
        x.let(0, 8);
        x.keep(0);
        x.exchange(5);
        x.let(2, 3);
        x.keep(1);
        x.value(4);
        x.let(1, 2);
        x.machine(2, 4, 5, 6, 7);
        x.exchange(5);
        x.exchange(5);
        x.let(1, 0);
        Check.type(x, "a+");
    }

    /** Ten acts are known and more are lost: one more would lose another. */
    private static void tired(NeedCode x) {
        busy(x);
        for (int v = 1; v <= 6; v++) {
            x.let(v, v * 11);
        }
    }

    private static void full(NeedCode x) {
        busy(x);
        Check.type(x, "b" + " ".repeat(57));
    }

    private static void everywhere(String call, ToIntFunction<NeedCode> refusal, int answer) {
        refused(call + ", fresh", RefusalSentencesTest::fresh, refusal, answer);
        inTrees(call, refusal, answer);
    }

    private static void inTrees(String call, ToIntFunction<NeedCode> refusal, int answer) {
        refused(call + ", busy", RefusalSentencesTest::busy, refusal, answer);
        refused(call + ", tired", RefusalSentencesTest::tired, refusal, answer);
        refused(call + ", full", RefusalSentencesTest::full, refusal, answer);
    }

    // ---- what is refused

    @Says("What is refused changes nothing")
    static void badChangesNothing() {
        for (int wrong : new int[] {-1, 99}) {
            everywhere("node", x -> x.node(wrong, 0), BAD);
            everywhere("node", x -> x.node(0, wrong), BAD);
            everywhere("value", x -> x.value(wrong), BAD);
            everywhere("cost", x -> x.cost(wrong, 1), BAD);
            everywhere("cost", x -> x.cost(0, wrong), BAD);
            everywhere("way", x -> x.way(wrong, 1), BAD);
            everywhere("way", x -> x.way(0, wrong), BAD);
            everywhere("exchange", x -> x.exchange(wrong), BAD);
            everywhere("let", x -> x.let(wrong, 6), BAD);
            everywhere("machine", x -> x.machine(wrong, 2, 2, 2, 2), BAD);
            everywhere("machine", x -> x.machine(2, wrong, 2, 2, 2), BAD);
            everywhere("machine", x -> x.machine(2, 2, wrong, 2, 2), BAD);
            everywhere("machine", x -> x.machine(2, 2, 2, wrong, 2), BAD);
            everywhere("machine", x -> x.machine(2, 2, 2, 2, wrong), BAD);
            everywhere("shared", x -> x.shared(wrong, 0), BAD);
            everywhere("shared", x -> x.shared(0, wrong), BAD);
            everywhere("keep", x -> x.keep(wrong), BAD);
            everywhere("back", x -> x.back(wrong), BAD);
            everywhere("count", x -> x.count(wrong), BAD);
            inTrees("program", x -> x.program(wrong, 0), BAD);
            inTrees("program", x -> x.program(1, wrong), BAD);
            inTrees("line", x -> x.line(wrong, 0), BAD);
            inTrees("line", x -> x.line(0, wrong), BAD);
            inTrees("run", x -> x.run(wrong), BAD);
            inTrees("cheapest", x -> x.cheapest(wrong), BAD);
        }
        for (int letter : new int[] {-1, 256}) {
            everywhere("type", x -> x.type(letter), BAD);
        }
    }

    @Says("What is refused changes nothing")
    static void stateChangesNothing() {
        Consumer<NeedCode> fresh = RefusalSentencesTest::fresh;
        refused("program", fresh, x -> x.program(1, 0), STATE);
        refused("line", fresh, x -> x.line(0, 0), STATE);
        refused("run", fresh, x -> x.run(0), STATE);
        refused("fewest", fresh, x -> x.fewest(), STATE);
        refused("cheapest", fresh, x -> x.cheapest(0), STATE);
        refused("keep", fresh, x -> x.keep(0), STATE);
        refused("back", fresh, x -> x.back(1), STATE);
        refused("undo", fresh, x -> x.undo(), STATE);
        // 0 c 1 ~ 2 a 3 b 4 / 5 + 6 c 7 ~ 8 -
        inTrees("exchange of a LEAF", x -> x.exchange(0), STATE);
        inTrees("exchange of ~", x -> x.exchange(1), STATE);
        inTrees("exchange of /", x -> x.exchange(4), STATE);
        inTrees("exchange of -", x -> x.exchange(8), STATE);
        refused("exchange of what may trap", x -> Check.read(x, "(a/b)+(b/a)"), x -> x.exchange(6), STATE);
        refused("undo behind back()", RefusalSentencesTest::behindBack, x -> x.undo(), STATE);
        refused("back, the other one was kept", RefusalSentencesTest::oneKept, x -> x.back(0), STATE);
    }

    private static void behindBack(NeedCode x) {
        busy(x);
        x.back(0);
    }

    private static void oneKept(NeedCode x) {
        Check.read(x, "a*b");
        x.keep(1);
        x.let(0, 7);
        x.exchange(2);
    }

    @Says("What is refused changes nothing")
    static void fullChangesNothing() {
        for (int letter : new int[] {0, ' ', 'a', 255}) {
            refused("type(" + letter + ")", RefusalSentencesTest::full, x -> x.type(letter), FULL);
        }
    }

    @Says("-10 less FAULT: nothing changes.")
    static void faultChangesNothing() {
        refused("tree() of (a+b;", RefusalSentencesTest::fresh, x -> x.tree(), -14);
        refused("tree() of a+", RefusalSentencesTest::busy, x -> x.tree(), -12);
        refused("tree() of a+", RefusalSentencesTest::tired, x -> x.tree(), -12);
        refused("tree() of nothing", x -> Check.read(x, "a"), x -> x.tree(), -10);
        refused("tree() of 32 NODES", RefusalSentencesTest::tooMany, x -> x.tree(), -10);
    }

    private static void tooMany(NeedCode x) {
        busy(x);
        x.clear();
        Check.type(x, "~".repeat(31) + "h");
    }

    @Says("(TRAP: but trapped()).")
    static void trapChangesTrapped() {
        List<Consumer<NeedCode>> pasts = List.of(RefusalSentencesTest::busy, RefusalSentencesTest::tired, RefusalSentencesTest::full);
        for (Consumer<NeedCode> past : pasts) {
            NeedCode one = new NeedCode();
            NeedCode other = new NeedCode();
            past.accept(one);
            past.accept(other);
            one.let(1, 0);
            other.let(1, 0);
            C.due("trapped() of before", one.trapped(), 4);
            one.exchange(5);
            other.exchange(5);
            C.due("value", one.value(8), TRAP);
            C.due("run", one.run(one.program(2, 0)), TRAP);
            C.due("trapped() tells another NODE", one.trapped(), 2);
            List<Integer> changed = portrait(one);
            List<Integer> same = portrait(other);
            C.due("trapped() is what changed", same.set(1, 2), 4);
            C.holds("TRAP changes nothing else: " + same + ", then " + changed, changed.equals(same));
        }
    }
}
