import java.io.IOException;

/** Promises 1 to 23: a test of its own for each sentence; p07 is promise 7. */
public final class PromiseSentencesTest {
    static final Check C = new Check("PromiseSentencesTest");
    private static final int BAD = NeedCode.BAD;
    private static final int STATE = NeedCode.STATE;
    private static final int TRAP = NeedCode.TRAP;
    private static final int NONE = NeedCode.NONE;
    private static final int MAX = Integer.MAX_VALUE;
    private static final int MIN = Integer.MIN_VALUE;

    public static void main(String[] args) throws IOException {
        Sentences.runAll(PromiseSentencesTest.class, C);
    }

    private static NeedCode by(int registers, int load, int store, int op, int opm, String text) {
        NeedCode x = Check.of(text);
        x.machine(registers, load, store, op, opm);
        return x;
    }

    // ---- 1 a new object, 2 type, 3 clear, 4 tree

    @Says("NeedCode(): No tree.")
    static void p01NoTree() {
        NeedCode x = new NeedCode();
        C.due("count(0)", x.count(0), 0);
        C.due("node(0, 0)", x.node(0, 0), BAD);
        C.due("value(0)", x.value(0), BAD);
        C.due("cost(0, 1)", x.cost(0, 1), BAD);
        C.due("way(0, 1)", x.way(0, 1), BAD);
        C.due("program(1, 0)", x.program(1, 0), STATE);
        C.due("line(0, 0)", x.line(0, 0), STATE);
        C.due("run(0)", x.run(0), STATE);
        C.due("fewest()", x.fewest(), STATE);
        C.due("exchange(0)", x.exchange(0), BAD);
        C.due("machine(1, 1, 1, 1, 1)", x.machine(1, 1, 1, 1, 1), 0);
        C.due("shared(0, 0)", x.shared(0, 0), BAD);
        C.due("cheapest(0)", x.cheapest(0), STATE);
        C.due("keep(0)", x.keep(0), STATE);
        C.due("back(0)", x.back(0), STATE);
        C.rowIs("the rest", "0 -9 0 0", new NeedCode().asked(), new NeedCode().trapped(), new NeedCode().count(7),
                new NeedCode().count(8));
        C.due("undo()", new NeedCode().undo(), STATE);
        C.due("tree()", new NeedCode().tree(), -10);
    }

    @Says("A letter (0 .. 255) comes to THE TEXT: how many it has. BAD; FULL.")
    static void p02Type() {
        NeedCode x = new NeedCode();
        for (int letter : new int[] {MIN, -97, -1, 256, 353, 65633, MAX}) {
            C.due("type(" + letter + ")", x.type(letter), BAD);
        }
        C.due("count(7)", x.count(7), 0);
        C.due("type(0)", x.type(0), 1);
        C.due("type(255)", x.type(255), 2);
        C.due("tree()", x.tree(), -10);
        x.clear();
        for (int letter = 1; letter <= 60; letter++) {
            C.due("type(32)", x.type(32), letter);
        }
        C.due("type(0), full", x.type(0), NeedCode.FULL);
        C.due("type(255), full", x.type(255), NeedCode.FULL);
        C.due("type(256), full", x.type(256), BAD);
        C.due("type(-1), full", x.type(-1), BAD);
        C.due("count(7)", x.count(7), 60);
    }

    @Says("THE TEXT is empty: how many letters it had.")
    static void p03Clear() {
        NeedCode x = new NeedCode();
        C.due("of nothing", x.clear(), 0);
        Check.type(x, "a+b");
        C.due("of three", x.clear(), 3);
        C.due("again", x.clear(), 0);
        C.due("count(7)", x.count(7), 0);
        Check.type(x, " ".repeat(60));
        C.due("of all", x.clear(), 60);
        C.due("from the first one on", x.type('7'), 1);
        C.due("tree()", x.tree(), 1);
        C.due("behind tree()", x.clear(), 0);
        Check.type(x, "b");
        x.clear();
        C.shapeIs("7", x);
        // nothing of it is read later, not even by a shorter one
        Check.type(x, "12345");
        x.clear();
        C.due("1", Check.read(x, "1"), 1);
        C.shapeIs("1", x);
        Check.type(x, "a*b;");
        x.clear();
        C.due("c", Check.read(x, "c"), 1);
        C.shapeIs("c", x);
    }

    @Says("THE TEXT is the tree, and is empty then: how many NODES. -10 less FAULT: nothing changes.")
    static void p04Tree() {
        NeedCode x = new NeedCode();
        C.due("a", Check.read(x, "a"), 1);
        C.due("THE TEXT is empty", x.count(7), 0);
        C.due("an empty one can't be read", x.tree(), -10);
        C.shapeIs("a", x);
        C.due("a-b", Check.read(x, "a-b"), 3);
        C.shapeIs("(a-b)", x);
        x.let(0, 4);
        x.keep(1);
        C.due("a+", Check.read(x, "a+"), -12);
        C.due("THE TEXT stays", x.count(7), 2);
        C.due("once more", x.tree(), -12);
        C.shapeIs("(a-b)", x);
        C.due("it can be undone still", x.count(8), 1);
        C.due("it goes on", x.type('b'), 3);
        C.due("the image stays", x.back(1), 3);
        C.due("a+b", x.tree(), 3);
        C.shapeIs("(a+b)", x);
        C.due("the greatest FAULT", Check.read(x, "(".repeat(60)), -70);
        x.clear();
        // however often a text is refused, a later one is read as it is
        Check.type(x, "a-(b-(c-d");
        for (int times = 0; times < 40; times++) {
            C.due("a-(b-(c-d", x.tree(), -19);
        }
        Check.type(x, "))");
        C.due("a-(b-(c-d))", x.tree(), 7);
        C.shapeIs("(a-(b-(c-d)))", x);
    }

    // ---- 5 node

    @Says("Of a NODE: 0 its letter (a NUMBER: 48; a NAME, an operator as it is)")
    static void p05Letter() {
        NeedCode x = Check.of("(a+h-9)#(99*0)/~b");
        String letters = "ah+0-00*b~/#";
        C.due("count(0)", x.count(0), letters.length());
        for (int k = 0; k < letters.length(); k++) {
            C.due("node(" + k + ", 0)", x.node(k, 0), letters.charAt(k));
        }
    }

    @Says("1 the NUMBER, the number of the NAME, 0, 2 the left operand (that of ~; NONE), 3 the right one (NONE)")
    static void p05NumberAndOperands() {
        // 0 a 1 h 2 + 3 9 4 - 5 99 6 0 7 * 8 b 9 ~ 10 / 11 #
        NeedCode x = Check.of("(a+h-9)#(99*0)/~b");
        int[] numbers = {0, 7, 0, 9, 0, 99, 0, 0, 1, 0, 0, 0};
        int[] lefts = {-9, -9, 0, -9, 2, -9, -9, 5, -9, 8, 7, 4};
        int[] rights = {-9, -9, 1, -9, 3, -9, -9, 6, -9, -9, 9, 10};
        for (int k = 0; k < numbers.length; k++) {
            C.rowIs("node(" + k + ", 1 to 3)", Check.row(numbers[k], lefts[k], rights[k]),
                    x.node(k, 1), x.node(k, 2), x.node(k, 3));
        }
    }

    @Says("4 NEED, 5 LEAST NEED, 6 whether it MAY TRAP (1, 0)")
    static void p05Needs() {
        // 0 a 1 b 2 c 3 / 4 * 5 d 6 e 7 - 8 #
        NeedCode x = Check.of("(a*(b/c))#(d-e)");
        String[] want = {"1 1 0", "1 1 0", "0 0 0", "1 1 1", "2 1 1", "1 1 0", "0 0 0", "1 1 0", "2 2 1"};
        for (int k = 0; k < want.length; k++) {
            C.rowIs("node(" + k + ", 4 to 6)", want[k], x.node(k, 4), x.node(k, 5), x.node(k, 6));
        }
    }

    @Says("7 how many NODES are below it, and 1")
    static void p05Below() {
        // 0 a 1 ~ 2 b 3 c 4 - 5 ~ 6 *
        NeedCode x = Check.of("~a*~(b-c)");
        int[] want = {1, 2, 1, 1, 3, 4, 7};
        for (int k = 0; k < want.length; k++) {
            C.due("node(" + k + ", 7)", x.node(k, 7), want[k]);
        }
        C.due("of 31", Check.of("~".repeat(30) + "a").node(30, 7), 31);
        C.due("of one", Check.of("a").node(0, 7), 1);
    }

    @Says("8 the lowest NODE ALIKE. BAD.")
    static void p05AlikeAndBad() {
        NeedCode x = Check.of("a*b-a*b-a*b");
        int[] want = {0, 1, 2, 0, 1, 2, 6, 0, 1, 2, 10};
        for (int k = 0; k < want.length; k++) {
            C.due("node(" + k + ", 8)", x.node(k, 8), want[k]);
        }
        for (int what : new int[] {MIN, -1, 9, 10, MAX}) {
            C.due("node(0, " + what + ")", x.node(0, what), BAD);
        }
        for (int k : new int[] {MIN, -1, 11, 12, 31, MAX}) {
            for (int what = 0; what <= 8; what++) {
                C.due("node(" + k + ", " + what + ")", x.node(k, what), BAD);
            }
        }
        // a smaller tree has less NODES than the one ahead of it
        Check.read(x, "a");
        C.due("node(1, 0)", x.node(1, 0), BAD);
    }

    // ---- 6 value, 7 cost, 8 way

    @Says("What a NODE comes to, told by asked(): 1. BAD; TRAP.")
    static void p06Value() {
        // 0 a 1 1 2 + 3 a 4 b 5 / 6 * 7 c 8 -
        NeedCode x = Check.of("(a+1)*(a/b)-c");
        x.let(0, 7);
        x.let(1, 2);
        x.let(2, -5);
        int[] want = {7, 1, 8, 7, 2, 3, 24, -5, 29};
        for (int k = 0; k < want.length; k++) {
            C.due("value(" + k + ")", x.value(k), 1);
            C.due("asked()", x.asked(), want[k]);
        }
        for (int k : new int[] {MIN, -1, 9, 31, MAX}) {
            C.due("value(" + k + ")", x.value(k), BAD);
        }
        C.due("asked() as before", x.asked(), 29);
        x.let(1, 0);
        C.due("b stood for", x.asked(), 2);
        // NODES that the trap is not below come to ints still
        int[] answers = {1, 1, 1, 1, 1, TRAP, TRAP, 1, TRAP};
        for (int k = 0; k < want.length; k++) {
            C.due("value(" + k + ")", x.value(k), answers[k]);
            C.due("trapped()", x.trapped(), k < 5 ? NONE : 5);
        }
        C.due("asked() of the latest", x.asked(), -5);
    }

    @Says("COST of a NODE by i REGISTERS. BAD.")
    static void p07Cost() {
        NeedCode x = Check.of("a-(b-c)");
        C.rowIs("of the ROOT", "13 9 9", x.cost(4, 1), x.cost(4, 2), x.cost(4, 3));
        C.rowIs("of a LEAF", "3 3 3", x.cost(0, 1), x.cost(0, 2), x.cost(0, 3));
        for (int i : new int[] {MIN, -1, 0, 4, 5, 6, 7, MAX}) {
            C.due("cost(4, " + i + ")", x.cost(4, i), BAD);
            C.due("cost(0, " + i + ")", x.cost(0, i), BAD);
        }
        for (int k : new int[] {MIN, -1, 5, 31, MAX}) {
            C.due("cost(" + k + ", 1)", x.cost(k, 1), BAD);
        }
        // as dear as it gets: by 1 nothing but LOAD, STORE and OPM for 9
        NeedCode y = by(1, 9, 9, 9, 9, "(((a/b)/(c/d))/((e/f)/(g/h)))/(((a/b)/(c/d))/((e/f)/(g/h)))");
        // 18; twice 27, 18; twice 81, 18; twice 189, 18
        C.rowIs("by 9 each", "18 72 180 396", y.cost(2, 1), y.cost(6, 1), y.cost(14, 1), y.cost(30, 1));
    }

    @Says("WAY of a NODE by i REGISTERS; 0: a LEAF, ~. BAD.")
    static void p08Way() {
        // 0 a 1 b 2 - 3 ~ 4 c 5 d 6 - 7 -
        NeedCode x = Check.of("~(a-b)-(c-d)");
        int[][] want = {{0, 0, 0}, {0, 0, 0}, {3, 3, 3}, {0, 0, 0}, {0, 0, 0}, {0, 0, 0}, {3, 3, 3}, {3, 1, 1}};
        for (int k = 0; k < want.length; k++) {
            C.rowIs("way of " + k, Check.row(want[k]), x.way(k, 1), x.way(k, 2), x.way(k, 3));
        }
        for (int i : new int[] {MIN, -1, 0, 4, 6, 7, MAX}) {
            C.due("way(7, " + i + ")", x.way(7, i), BAD);
            C.due("way(0, " + i + ")", x.way(0, i), BAD);
        }
        for (int k : new int[] {MIN, -1, 8, 31, MAX}) {
            C.due("way(" + k + ", 1)", x.way(k, 1), BAD);
        }
    }

    // ---- 9 program, 10 line, 11 run, 12 fewest

    @Says("LINES of THE PROGRAM by i REGISTERS (what = 0), cells (1), COST of the ROOT (2). BAD; STATE: no tree (ahead of BAD).")
    static void p09Program() {
        NeedCode x = new NeedCode();
        C.due("no tree", x.program(1, 0), STATE);
        C.due("no tree, ahead of BAD", x.program(0, 0), STATE);
        C.due("no tree, ahead of BAD", x.program(1, 3), STATE);
        Check.read(x, "((a-b)-(c-d))-((e-f)-(g-h))");
        C.rowIs("by 1", "14 3 35", x.program(1, 0), x.program(1, 1), x.program(1, 2));
        C.rowIs("by 2", "12 1 27", x.program(2, 0), x.program(2, 1), x.program(2, 2));
        C.rowIs("by 3", "11 0 23", x.program(3, 0), x.program(3, 1), x.program(3, 2));
        C.rowIs("by 1 again", "14 3 35", x.program(1, 0), x.program(1, 1), x.program(1, 2));
        for (int i : new int[] {MIN, -1, 0, 4, 5, 6, 7, MAX}) {
            C.due("program(" + i + ", 0)", x.program(i, 0), BAD);
            C.due("program(" + i + ", 2)", x.program(i, 2), BAD);
        }
        for (int what : new int[] {MIN, -1, 3, 4, MAX}) {
            C.due("program(1, " + what + ")", x.program(1, what), BAD);
        }
        // as long as it gets: 15 LOADS, 15 OPM, 14 STORES
        NeedCode y = by(1, 9, 9, 9, 9, "(((a/b)/(c/d))/((e/f)/(g/h)))/(((a/b)/(c/d))/((e/f)/(g/h)))");
        C.rowIs("the longest", "44 14 396", y.program(1, 0), y.program(1, 1), y.program(1, 2));
        C.rowIs("of one LEAF", "1 0 3", Check.of("a").program(1, 0), Check.of("a").program(1, 1), Check.of("a").program(1, 2));
    }

    @Says("Of a LINE of THE PROGRAM by all REGISTERS, 0 .. 4. BAD; STATE: no tree (ahead of BAD).")
    static void p10Line() {
        NeedCode x = new NeedCode();
        C.due("no tree", x.line(0, 0), STATE);
        C.due("no tree, ahead of BAD", x.line(-1, 0), STATE);
        C.due("no tree, ahead of BAD", x.line(0, 5), STATE);
        Check.read(x, "a-(b-c)");
        C.rowIs("the first LINE", "0 0 0 1 0", x.line(0, 0), x.line(0, 1), x.line(0, 2), x.line(0, 3), x.line(0, 4));
        C.rowIs("the last LINE", "1 0 4 0 1", x.line(3, 0), x.line(3, 1), x.line(3, 2), x.line(3, 3), x.line(3, 4));
        for (int j : new int[] {MIN, -1, 4, 5, 92, 93, MAX}) {
            C.due("line(" + j + ", 0)", x.line(j, 0), BAD);
        }
        for (int what : new int[] {MIN, -1, 5, 6, MAX}) {
            C.due("line(0, " + what + ")", x.line(0, what), BAD);
        }
        // by all, whatever was asked for
        C.due("by 1 there are 5", x.program(1, 0), 5);
        C.due("line(4, 0)", x.line(4, 0), BAD);
        C.due("line(3, 0)", x.line(3, 0), 1);
        x.machine(1, 3, 3, 1, 2);
        C.due("line(4, 0)", x.line(4, 0), 2);
        C.due("line(5, 0)", x.line(5, 0), BAD);
    }

    @Says("What register 0 has behind n LINES of THE PROGRAM (registers, cells 0 ahead), told by asked(): 1.")
    static void p11Run() {
        // WAY 2: register 0 has c*d-e*f while a*b is made in 1
        NeedCode x = by(2, 3, 3, 1, 2, "(a*b)-((c*d)-(e*f))");
        for (int name = 0; name < 6; name++) {
            x.let(name, name + 2);
        }
        int[] want = {0, 4, 20, 20, 20, -22, -22, -22, 28};
        for (int n = 0; n < want.length; n++) {
            C.due("run(" + n + ")", x.run(n), 1);
            C.due("asked() behind " + n, x.asked(), want[n]);
        }
        C.due("run(0)", x.run(0), 1);
        C.due("0 ahead, though others ran", x.asked(), 0);
        // a STORE leaves the register as it is; a cell has what was stored there
        NeedCode y = by(1, 3, 3, 1, 2, "a-(b-c)");
        y.let(0, 50);
        y.let(1, 9);
        y.let(2, 2);
        int[] stored = {0, 9, 7, 7, 50, 43};
        for (int n = 0; n < stored.length; n++) {
            C.due("run(" + n + ")", y.run(n), 1);
            C.due("asked() behind " + n, y.asked(), stored[n]);
        }
        // by all six registers: a to f are loaded to 0 to 5
        NeedCode z = by(6, 1, 9, 1, 1, "a-(b-(c-(d-(e-(f-7)))))");
        for (int name = 0; name < 6; name++) {
            z.let(name, 1 << 2 * name);
        }
        C.rowIs("its lines, its cells", "12 0", z.program(6, 0), z.program(6, 1));
        C.rowIs("the sixth register", "0 5", z.line(5, 0), z.line(5, 1));
        C.due("run(12)", z.run(12), 1);
        C.due("asked()", z.asked(), 1 - 4 + 16 - 64 + 256 - 1024 + 7);
        // NAMES as they stand now
        y.let(0, 1);
        C.due("run(5)", y.run(5), 1);
        C.due("asked()", y.asked(), -6);
    }

    @Says("STATE: no tree; BAD: more than there are, below 0; TRAP. (In this order.)")
    static void p11RunRefused() {
        NeedCode x = new NeedCode();
        C.due("no tree", x.run(0), STATE);
        C.due("no tree, ahead of BAD", x.run(-1), STATE);
        C.due("no tree, ahead of BAD", x.run(1), STATE);
        Check.read(x, "(a/b)-(c/d)");
        int lines = x.program(3, 0);
        C.due("5 LINES", lines, 5);
        C.due("more than there are", x.run(6), BAD);
        C.due("more than there are", x.run(MAX), BAD);
        C.due("below 0", x.run(-1), BAD);
        C.due("below 0", x.run(MIN), BAD);
        C.due("none trapped", x.trapped(), NONE);
        C.due("run(1)", x.run(1), 1);
        C.due("run(2)", x.run(2), TRAP);
        C.due("trapped()", x.trapped(), 2);
        C.due("run(5)", x.run(5), TRAP);
        C.due("run(6)", x.run(6), BAD);
        x.let(1, 1);
        C.due("run(3)", x.run(3), 1);
        C.due("trapped() of before", x.trapped(), 2);
        C.due("run(4)", x.run(4), TRAP);
        C.due("trapped()", x.trapped(), 5);
        x.let(3, 1);
        C.due("run(5)", x.run(5), 1);
        // by all REGISTERS: by 1 there are more LINES
        C.due("8 by 1", x.program(1, 0), 8);
        C.due("run(6)", x.run(6), BAD);
    }

    @Says("The fewest REGISTERS (of as many as there are) by which THE PROGRAM has no STORE; NONE. STATE: no tree.")
    static void p12Fewest() {
        C.due("no tree", new NeedCode().fewest(), STATE);
        String three = "((a-b)-(c-d))-((e-f)-(g-h))";
        C.due("a LEAF", by(1, 3, 3, 1, 2, "a").fewest(), 1);
        C.due("1 of 6", by(6, 3, 3, 1, 2, "a+(b*c)").fewest(), 1);
        C.due("2 of 2", by(2, 3, 3, 1, 2, "a-(b*c)").fewest(), 2);
        C.due("none of 1", by(1, 3, 3, 1, 2, "a-(b*c)").fewest(), NONE);
        C.due("3 of 6", by(6, 3, 3, 1, 2, three).fewest(), 3);
        C.due("3 of 3", by(3, 3, 3, 1, 2, three).fewest(), 3);
        C.due("none of 2", by(2, 3, 3, 1, 2, three).fewest(), NONE);
        C.due("4 of 6", by(6, 9, 9, 1, 9, "(" + three + ")-((a-b-(c-d))-(e-f-(g-h)))").fewest(), 4);
        // a STORE that pays stands there by all of them
        C.due("none of 6", by(6, 4, 1, 9, 1, "(a-b)-(c-d)").fewest(), NONE);
        // THE PROGRAM by all is the same behind it
        NeedCode x = by(3, 3, 3, 1, 2, "a-(b*c)");
        C.due("2 of 3", x.fewest(), 2);
        C.due("its lines", x.line(3, 0), 1);
        C.due("no more", x.line(4, 0), BAD);
    }

    // ---- 13 exchange, 14 let, 15 machine, 16 undo

    @Says("EXCHANGED: the ROOT's COST by all REGISTERS then. BAD; STATE: it is not COMMUTING, both MAY TRAP.")
    static void p13Exchange() {
        C.due("no tree", new NeedCode().exchange(0), BAD);
        // ~a+b by 3: 3 and 1, 2 either way; the ROOT's, not its own
        NeedCode x = Check.of("(~a+b)-c");
        C.due("exchange(3)", x.exchange(3), 8);
        C.shapeIs("((b+~a)-c)", x);
        // an exchange leaves every COST as it is, as the WAYS that may be are exchanged too
        NeedCode y = by(1, 3, 3, 1, 2, "((a-b)+c)-d*(e-f)");
        C.due("as it is", y.cost(10, 1), 19);
        C.due("exchange(4)", y.exchange(4), 19);
        for (int k : new int[] {MIN, -1, 11, 31, MAX}) {
            C.due("exchange(" + k + ")", y.exchange(k), BAD);
        }
        C.due("a LEAF", y.exchange(0), STATE);
        C.due("a -", y.exchange(10), STATE);
        C.due("a ~", Check.of("~a").exchange(1), STATE);
        C.due("a /", Check.of("a/b").exchange(2), STATE);
        C.due("both may trap", Check.of("(a/b)+(a/b)").exchange(6), STATE);
        C.due("both may trap", Check.of("(a/b)#~(c#b)").exchange(7), STATE);
        C.due("one may", Check.of("(a/b)#~(c+b)").exchange(7), 12);
        C.due("itself may", Check.of("a#b").exchange(2), 5);
        // by all REGISTERS: 9 by 2, 13 by 1
        C.due("by 2", by(2, 3, 3, 1, 2, "(a*b)-(c-d)").exchange(2), 11);
        C.due("by 1", by(1, 3, 3, 1, 2, "(a*b)-(c-d)").exchange(2), 15);
    }

    @Says("LET: what it stood for, told by asked(): 1. BAD: a NAME (0 .. 7).")
    static void p14Let() {
        NeedCode x = new NeedCode();
        for (int name : new int[] {MIN, -1, 8, 9, 'a', MAX}) {
            C.due("let(" + name + ", 1)", x.let(name, 1), BAD);
        }
        C.due("none was made", x.count(8), 0);
        for (int name = 0; name <= 7; name++) {
            C.due("let", x.let(name, MIN + name), 1);
            C.due("0 at first", x.asked(), 0);
        }
        for (int name = 0; name <= 7; name++) {
            C.due("let", x.let(name, MAX), 1);
            C.due("it stood for", x.asked(), MIN + name);
        }
        x.let(0, MAX);
        C.due("the same once more", x.asked(), MAX);
        C.due("let(8, 0)", x.let(8, 0), BAD);
        C.due("asked() as before", x.asked(), MAX);
        Check.read(x, "h");
        x.let(7, -3);
        x.value(0);
        C.due("h", x.asked(), -3);
    }

    @Says("BUILT: the ROOT's COST by all REGISTERS then (0 without a tree). BAD.")
    static void p15Machine() {
        NeedCode x = new NeedCode();
        C.due("no tree", x.machine(6, 9, 9, 9, 9), 0);
        C.due("no tree", x.machine(1, 1, 1, 1, 1), 0);
        int[] good = {3, 3, 3, 1, 2};
        int[] most = {6, 9, 9, 9, 9};
        for (int at = 0; at < 5; at++) {
            for (int number : new int[] {MIN, -1, 0, most[at] + 1, MAX}) {
                int[] m = good.clone();
                m[at] = number;
                C.due("machine " + Check.row(m), x.machine(m[0], m[1], m[2], m[3], m[4]), BAD);
            }
        }
        C.rowIs("as before", "1 1 1 1 1 2", x.count(1), x.count(2), x.count(3), x.count(4), x.count(5), x.count(8));
        Check.read(x, "a-(b-c)");
        C.due("by 1", x.machine(1, 3, 3, 1, 2), 13);
        C.due("by 2", x.machine(2, 3, 3, 1, 2), 9);
        C.due("the same once more", x.machine(2, 3, 3, 1, 2), 9);
        C.due("it counts too", x.count(8), 3);
    }

    @Says("UNDONE: how many more may be. STATE: none.")
    static void p16Undo() {
        NeedCode x = new NeedCode();
        C.due("none", x.undo(), STATE);
        x.let(0, 1);
        C.due("one", x.undo(), 0);
        C.due("none", x.undo(), STATE);
        for (int act = 0; act < 12; act++) {
            x.let(0, act);
        }
        for (int more = 9; more >= 0; more--) {
            C.due("undo()", x.undo(), more);
            C.due("count(8)", x.count(8), more);
        }
        C.due("none", x.undo(), STATE);
        C.due("none", x.undo(), STATE);
        // each of the ten can be of any kind and any NAME
        Check.read(x, "a+~h");
        for (int round = 0; round < 10; round++) {
            for (int act = 0; act < 10 + round; act++) {
                x.let(7, act);
            }
            x.exchange(3);
            x.undo();
            C.shapeIs("(a+~h)", x);
            x.undo();
            x.value(1);
            C.due("h", x.asked(), 8 + round);
        }
        // what is undone can't be undone again, nor done again
        Check.read(x, "a+b");
        x.exchange(2);
        x.let(0, 5);
        x.undo();
        x.undo();
        C.due("none", x.undo(), STATE);
        C.shapeIs("(a+b)", x);
    }

    // ---- 17 shared, 18 cheapest

    @Says("Of what is SHARED: 0 its first NODE, 1 how often it occurs. BAD.")
    static void p17Shared() {
        NeedCode x = Check.of("~a*~b-~b-~b-~a");
        C.rowIs("0", "1 2", x.shared(0, 0), x.shared(0, 1));
        C.rowIs("1", "3 3", x.shared(1, 0), x.shared(1, 1));
        for (int c : new int[] {MIN, -1, 2, 3, 5, MAX}) {
            C.due("shared(" + c + ", 0)", x.shared(c, 0), BAD);
            C.due("shared(" + c + ", 1)", x.shared(c, 1), BAD);
        }
        for (int what : new int[] {MIN, -1, 2, 3, MAX}) {
            C.due("shared(0, " + what + ")", x.shared(0, what), BAD);
        }
        C.due("no tree", new NeedCode().shared(0, 0), BAD);
        C.due("nothing is shared", Check.of("a").shared(0, 0), BAD);
        NeedCode five = Check.of("~~~~~~a-~~~~~~a");
        C.rowIs("the fifth", "5 2", five.shared(4, 0), five.shared(4, 1));
        C.due("a sixth", five.shared(5, 0), BAD);
        // occurring ten times
        C.rowIs("ten", "1 10", Check.of("~a-~a-~a-~a-~a-~a-~a-~a-~a-~a").shared(0, 0),
                Check.of("~a-~a-~a-~a-~a-~a-~a-~a-~a-~a").shared(0, 1));
    }

    @Says("CHEAPEST: how much (what = 0), which set (1). BAD; STATE: no tree (ahead of BAD).")
    static void p18Cheapest() {
        NeedCode x = new NeedCode();
        C.due("no tree", x.cheapest(0), STATE);
        C.due("no tree, ahead of BAD", x.cheapest(2), STATE);
        C.due("no tree, ahead of BAD", x.cheapest(-1), STATE);
        Check.read(x, "a*b-a*b-a*b");
        C.due("how much", x.cheapest(0), 15);
        C.due("which set", x.cheapest(1), 1);
        for (int what : new int[] {MIN, -1, 2, 3, MAX}) {
            C.due("cheapest(" + what + ")", x.cheapest(what), BAD);
        }
        // behind another MACHINE, behind undo(), behind an exchange that makes others alike
        x.machine(3, 3, 9, 1, 2);
        C.rowIs("a dear STORE", "17 0", x.cheapest(0), x.cheapest(1));
        x.undo();
        C.rowIs("undone", "15 1", x.cheapest(0), x.cheapest(1));
        x.exchange(2);
        C.rowIs("b*a-a*b-a*b", "17 0", x.cheapest(0), x.cheapest(1));
        Check.read(x, "a");
        C.rowIs("read anew", "3 0", x.cheapest(0), x.cheapest(1));
    }

    // ---- 19 keep, 20 back, 21 asked, 22 trapped, 23 count

    @Says("An IMAGE (0, 1) is kept: how many NODES. BAD; STATE: no tree.")
    static void p19Keep() {
        NeedCode x = new NeedCode();
        C.due("no tree", x.keep(0), STATE);
        C.due("no tree", x.keep(1), STATE);
        C.due("BAD ahead of it", x.keep(2), BAD);
        C.due("BAD ahead of it", x.keep(-1), BAD);
        Check.read(x, "a-b");
        for (int image : new int[] {MIN, -1, 2, 3, MAX}) {
            C.due("keep(" + image + ")", x.keep(image), BAD);
        }
        C.due("keep(0)", x.keep(0), 3);
        C.due("none was kept in 1", x.back(1), STATE);
        C.due("keep(1)", x.keep(1), 3);
        C.due("31 NODES", Check.of("~".repeat(30) + "a").keep(1), 31);
        // kept anew: the former one is gone
        x.let(0, 5);
        x.keep(0);
        x.let(0, 6);
        x.back(0);
        x.value(0);
        C.due("a", x.asked(), 5);
        x.back(1);
        x.value(0);
        C.due("a of the other one", x.asked(), 0);
    }

    @Says("All of that becomes as an IMAGE has it: how many NODES. BAD; STATE: none was kept.")
    static void p20Back() {
        NeedCode x = Check.of("a+b*c");
        C.due("none was kept", x.back(0), STATE);
        C.due("none was kept", x.back(1), STATE);
        for (int image : new int[] {MIN, -1, 2, 3, MAX}) {
            C.due("back(" + image + ")", x.back(image), BAD);
        }
        x.let(0, 3);
        C.due("keep(1)", x.keep(1), 5);
        C.due("none was kept in 0", x.back(0), STATE);
        x.exchange(4);
        x.let(0, 4);
        x.machine(1, 9, 8, 7, 6);
        x.keep(0);
        C.due("back(1)", x.back(1), 5);
        C.shapeIs("(a+(b*c))", x);
        C.rowIs("cost, way, line", "7 4 0", x.cost(4, 3), x.way(4, 3), x.line(0, 0));
        x.value(0);
        C.due("a", x.asked(), 3);
        C.due("back(0)", x.back(0), 5);
        C.shapeIs("((b*c)+a)", x);
        C.rowIs("the machine", "1 9 8 7 6", x.count(1), x.count(2), x.count(3), x.count(4), x.count(5));
        C.due("by 2", x.cost(4, 2), BAD);
        x.value(3);
        C.due("a", x.asked(), 4);
        // what is done behind back() leaves the IMAGE as it was
        x.let(0, 77);
        x.exchange(4);
        x.machine(6, 1, 1, 1, 1);
        C.due("back(0) again", x.back(0), 5);
        C.shapeIs("((b*c)+a)", x);
        C.due("its registers", x.count(1), 1);
        x.value(3);
        C.due("a", x.asked(), 4);
    }

    @Says("What the latest value(), run(), let() that was not refused told; 0 before.")
    static void p21Asked() {
        NeedCode x = new NeedCode();
        C.due("0 before", x.asked(), 0);
        x.let(0, 12);
        C.due("let told 0", x.asked(), 0);
        x.let(0, 13);
        C.due("let told 12", x.asked(), 12);
        Check.read(x, "a/b");
        C.due("behind tree()", x.asked(), 12);
        x.value(0);
        C.due("value told 13", x.asked(), 13);
        x.run(0);
        C.due("run told 0", x.asked(), 0);
        x.run(1);
        C.due("run told 13", x.asked(), 13);
        x.let(9, 1);
        x.value(9);
        x.run(9);
        x.value(2);
        x.run(2);
        C.due("refused", x.asked(), 13);
        x.let(0, 14);
        x.let(0, 15);
        x.undo();
        C.due("undo() tells nothing", x.asked(), 14);
        x.keep(0);
        x.machine(1, 1, 1, 1, 1);
        x.value(1);
        x.back(0);
        x.exchange(2);
        C.due("nor do others", x.asked(), 0);
    }

    @Says("The NODE of the latest TRAP; NONE before.")
    static void p22Trapped() {
        NeedCode x = new NeedCode();
        C.due("NONE before", x.trapped(), NONE);
        Check.read(x, "(a/b)*(c/d)+e");
        C.due("none trapped", x.trapped(), NONE);
        x.value(5);
        C.due("of value", x.trapped(), 5);
        x.run(2);
        C.due("of run", x.trapped(), 2);
        x.value(0);
        x.run(1);
        C.due("others leave it", x.trapped(), 2);
        x.value(5);
        C.due("the latest", x.trapped(), 5);
        x.exchange(8);
        x.undo();
        x.keep(0);
        x.back(0);
        C.due("acts and images leave it", x.trapped(), 5);
        Check.read(x, "a");
        C.due("tree() leaves it", x.trapped(), 5);
        Check.read(x, "1/0");
        x.value(9);
        C.due("what is BAD leaves it", x.trapped(), 5);
        x.value(2);
        C.due("the latest", x.trapped(), 2);
        Check.read(x, "~".repeat(28) + "(1/0)");
        x.value(30);
        C.due("of the NODE itself, not of those above it", x.trapped(), 2);
    }

    @Says("0 NODES, 1 REGISTERS, 2 LOAD, 3 STORE, 4 OP, 5 OPM, 6 how much is SHARED (5 at most), 7 letters of THE TEXT, 8 how many "
            + "may be UNDONE. BAD.")
    static void p23Count() {
        NeedCode x = new NeedCode();
        int[] first = {0, 3, 3, 3, 1, 2, 0, 0, 0};
        for (int what = 0; what < first.length; what++) {
            C.due("at first: count(" + what + ")", x.count(what), first[what]);
        }
        Check.read(x, "a*b-a*b");
        x.machine(2, 4, 5, 6, 7);
        x.let(1, 1);
        Check.type(x, "abc");
        int[] then = {7, 2, 4, 5, 6, 7, 1, 3, 2};
        for (int what = 0; what < then.length; what++) {
            C.due("then: count(" + what + ")", x.count(what), then[what]);
        }
        for (int what : new int[] {MIN, -1, 9, 10, MAX}) {
            C.due("count(" + what + ")", x.count(what), BAD);
        }
        C.due("five of five", Check.of("~~~~~a-~~~~~a").count(6), 5);
        C.due("five of six", Check.of("~~~~~~a-~~~~~~a").count(6), 5);
        C.due("31", Check.of("~".repeat(30) + "a").count(0), 31);
        for (int act = 0; act < 12; act++) {
            x.let(0, 0);
        }
        C.due("10 at most", x.count(8), 10);
    }
}
