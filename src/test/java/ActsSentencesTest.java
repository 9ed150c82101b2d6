import java.io.IOException;

/** 3 EXCHANGED, and what stands under it: a test of its own for each sentence. */
public final class ActsSentencesTest {
    static final Check C = new Check("ActsSentencesTest");
    private static final int MAX = Integer.MAX_VALUE;
    private static final int MIN = Integer.MIN_VALUE;

    public static void main(String[] args) throws IOException {
        Sentences.runAll(ActsSentencesTest.class, C);
    }

    private static NeedCode by(int registers, int load, int store, int op, int opm, String text) {
        NeedCode x = Check.of(text);
        x.machine(registers, load, store, op, opm);
        return x;
    }

    /** All that node() tells, as of another object that read that text. */
    private static void sameAs(NeedCode x, String text) {
        NeedCode y = Check.of(text);
        C.due("count(0) as of " + text, x.count(0), y.count(0));
        for (int k = 0; k < y.count(0); k++) {
            for (int what = 0; what < 9; what++) {
                C.due("node(" + k + ", " + what + ") as of " + text, x.node(k, what), y.node(k, what));
            }
        }
    }

    private static void machineIs(NeedCode x, String want) {
        C.rowIs("the machine", want, x.count(1), x.count(2), x.count(3), x.count(4), x.count(5));
    }

    /** What a NODE comes to; MIN and 1 where it traps, which no test here comes to. */
    private static int valueOf(NeedCode x, int k) {
        return x.value(k) == 1 ? x.asked() : MIN + 1;
    }

    // ---- exchanges

    @Says("EXCHANGED: the operands of a COMMUTING operator, if not both of them MAY TRAP")
    static void whatIsExchanged() {
        for (String operator : new String[] {"+", "*", "#"}) {
            NeedCode none = Check.of("(a-b)" + operator + "c");
            C.due("none may trap: " + operator, none.exchange(4), 7);
            C.shapeIs("(c" + operator + "(a-b))", none);
            NeedCode left = Check.of("(a/b)" + operator + "c");
            C.due("the left one may: " + operator, left.exchange(4), 7);
            C.shapeIs("(c" + operator + "(a/b))", left);
            NeedCode right = Check.of("c" + operator + "(a#b)");
            C.due("the right one may: " + operator, right.exchange(4), 7);
            C.shapeIs("((a#b)" + operator + "c)", right);
            NeedCode both = Check.of("(a/b)" + operator + "~(c#d)");
            C.due("both may: " + operator, both.exchange(7), NeedCode.STATE);
            C.shapeIs("((a/b)" + operator + "~(c#d))", both);
        }
        for (String operator : new String[] {"-", "/"}) {
            NeedCode x = Check.of("(a-b)" + operator + "c");
            C.due("not COMMUTING: " + operator, x.exchange(4), NeedCode.STATE);
            C.shapeIs("((a-b)" + operator + "c)", x);
        }
        // operands that are alike can be exchanged as well
        C.due("a+a", Check.of("a+a").exchange(2), 5);
    }

    @Says("(NODES are numbered anew then, as they would be by the text so told).")
    static void numberedAnew() {
        NeedCode x = Check.of("a+(b*c)-d");
        x.exchange(4);
        sameAs(x, "(b*c)+a-d");
        x.exchange(2);
        sameAs(x, "(c*b)+a-d");
        x.exchange(4);
        sameAs(x, "a+(c*b)-d");
        NeedCode y = Check.of("(~a-b*7)+(c+(d-(e+f)))");
        y.exchange(13);
        sameAs(y, "(c+(d-(e+f)))+(~a-b*7)");
        y.exchange(6);
        sameAs(y, "((d-(e+f))+c)+(~a-b*7)");
        // 0 d 1 e 2 f 3 +: the sum of e and f is 3
        y.exchange(3);
        sameAs(y, "((d-(f+e))+c)+(~a-b*7)");
        // below an operator, with NODES ahead of it and behind it
        NeedCode z = Check.of("g-(h*(a-~b)+3)/(c*d)");
        z.exchange(6);
        sameAs(z, "g-((a-~b)*h+3)/(c*d)");
        // a LEAF that comes to stand right needs 0, one that comes to stand left 1
        NeedCode w = Check.of("a*b");
        w.exchange(2);
        C.rowIs("needs of b*a", "1 0 1", w.node(0, 4), w.node(1, 4), w.node(2, 4));
        C.shapeIs("(b*a)", w);
        // as many NODES as there can be
        NeedCode all = Check.of("a+b+c+d+e+f+g+h+a+b+c+d+e+f+g*7");
        all.exchange(30);
        sameAs(all, "g*7+(a+b+c+d+e+f+g+h+a+b+c+d+e+f)");
    }

    @Says("LET: a NAME stands for another int.")
    static void let() {
        NeedCode x = Check.of("a-b");
        x.let(0, MAX);
        x.let(1, MIN);
        C.due("a", valueOf(x, 0), MAX);
        C.due("b", valueOf(x, 1), MIN);
        C.due("a-b", valueOf(x, 2), -1);
        x.let(0, -1);
        C.due("a anew", valueOf(x, 0), -1);
        C.due("b as before", valueOf(x, 1), MIN);
        x.run(1);
        C.due("in THE PROGRAM too", x.asked(), -1);
        // a NUMBER is none
        NeedCode y = Check.of("0-a");
        y.let(0, 4);
        C.due("0", valueOf(y, 0), 0);
    }

    @Says("BUILT: another MACHINE.")
    static void built() {
        NeedCode x = Check.of("(a-b)-(c-d)");
        C.due("one register", x.machine(1, 3, 3, 1, 2), 15);
        machineIs(x, "1 3 3 1 2");
        C.due("its lines", x.program(1, 0), 6);
        C.due("its cells", x.program(1, 1), 1);
        C.due("all others", x.machine(6, 9, 8, 7, 6), 37);
        machineIs(x, "6 9 8 7 6");
        C.due("its lines", x.program(6, 0), 5);
        C.shapeIs("((a-b)-(c-d))", x);
    }

    // ---- undone

    @Says("UNDONE: the latest exchange(), let(), machine() that was not refused")
    static void undone() {
        NeedCode x = Check.of("a+(b/c)");
        x.let(0, 4);
        x.exchange(4);
        x.machine(1, 9, 8, 7, 6);
        x.let(2, 5);
        x.exchange(99);
        x.exchange(2);
        x.let(8, 9);
        x.let(-1, 9);
        x.machine(7, 1, 1, 1, 1);
        x.machine(1, 1, 1, 1, 0);
        x.value(4);
        x.run(1);
        x.keep(0);
        C.due("four can be", x.count(8), 4);
        C.due("undo() of let", x.undo(), 3);
        C.due("c", valueOf(x, 1), 0);
        machineIs(x, "1 9 8 7 6");
        C.due("undo() of machine", x.undo(), 2);
        machineIs(x, "3 3 3 1 2");
        C.due("its cost", x.cost(4, 3), 7);
        sameAs(x, "(b/c)+a");
        C.due("undo() of exchange", x.undo(), 1);
        sameAs(x, "a+(b/c)");
        C.due("a as before", valueOf(x, 0), 4);
        C.due("undo() of let", x.undo(), 0);
        C.due("a", valueOf(x, 0), 0);
        C.due("none is left", x.undo(), NeedCode.STATE);
        // whatever is told of the tree is as before
        NeedCode z = Check.of("b*a-d*(a*b)");
        for (int times = 0; times < 2; times++) {
            C.rowIs("before", "4 0 1 4", z.way(7, 3), z.count(6), z.line(0, 4), z.line(2, 2));
            z.exchange(2);
            C.rowIs("exchanged", "4 1 0 4", z.way(7, 3), z.count(6), z.line(0, 4), z.line(2, 2));
            z.exchange(7);
            C.rowIs("exchanged", "3 1 0 3", z.way(7, 3), z.count(6), z.line(0, 4), z.line(2, 2));
            z.undo();
            C.rowIs("undone", "4 1 0 4", z.way(7, 3), z.count(6), z.line(0, 4), z.line(2, 2));
            z.undo();
            z.machine(3, 9, 8, 7, 6);
            C.rowIs("by another machine", "43 15 0", z.cost(8, 3), z.cost(2, 3), z.cheapest(1));
            z.undo();
            C.rowIs("undone", "13 5 0", z.cost(8, 3), z.cost(2, 3), z.cheapest(1));
            z.let(0, 6);
            z.let(0, 7);
            z.undo();
            C.due("a", valueOf(z, 1), 6);
            z.undo();
            C.due("a", valueOf(z, 1), 0);
        }
        // without a tree as well
        NeedCode y = new NeedCode();
        y.machine(2, 2, 2, 2, 2);
        y.let(0, 7);
        C.due("undo() of let", y.undo(), 1);
        C.due("undo() of machine", y.undo(), 0);
        machineIs(y, "3 3 3 1 2");
    }

    @Says("(10 are known, older ones are lost).")
    static void tenAreKnown() {
        NeedCode x = Check.of("a");
        for (int v = 1; v <= 9; v++) {
            x.let(0, v);
        }
        C.due("9 of 9", x.count(8), 9);
        x.let(0, 10);
        C.due("10 of 10", x.count(8), 10);
        x.let(0, 11);
        C.due("10 of 11", x.count(8), 10);
        for (int more = 9; more >= 0; more--) {
            C.due("undo()", x.undo(), more);
            C.due("a", valueOf(x, 0), more + 1);
        }
        C.due("the first one is lost", x.undo(), NeedCode.STATE);
        C.due("a stays", valueOf(x, 0), 1);
        // undone ones make room: 10 known, 3 undone, 5 more are two too many
        for (int v = 101; v <= 110; v++) {
            x.let(0, v);
        }
        x.undo();
        x.undo();
        x.undo();
        for (int v = 201; v <= 205; v++) {
            x.let(0, v);
        }
        C.due("10 again", x.count(8), 10);
        int[] back = {204, 203, 202, 201, 107, 106, 105, 104, 103, 102};
        for (int at = 0; at < back.length; at++) {
            C.due("undo()", x.undo(), 9 - at);
            C.due("a", valueOf(x, 0), back[at]);
        }
        C.due("none is left", x.undo(), NeedCode.STATE);
        // each of ten machines in a row comes back whole, the oldest one too, wherever the row begins
        for (int ahead = 0; ahead < 10; ahead++) {
            NeedCode z = new NeedCode();
            for (int v = 0; v < ahead; v++) {
                z.let(0, v);
            }
            for (int at = 0; at <= 10; at++) {
                z.machine(1 + at % 6, 1 + at % 9, 1 + (at + 2) % 9, 1 + (at + 4) % 9, 1 + (at + 6) % 9);
            }
            for (int at = 9; at >= 0; at--) {
                C.due("undo()", z.undo(), at);
                machineIs(z, Check.row(1 + at % 6, 1 + at % 9, 1 + (at + 2) % 9, 1 + (at + 4) % 9, 1 + (at + 6) % 9));
            }
        }
        // of all kinds: the machines 1 to 5 stand for whole rounds of three
        NeedCode y = Check.of("a+b");
        for (int round = 1; round <= 5; round++) {
            y.machine(round, round, round, round, round);
            y.exchange(2);
            y.let(1, round);
        }
        for (int more = 9; more >= 0; more--) {
            C.due("undo()", y.undo(), more);
        }
        machineIs(y, "2 2 2 2 2");
        C.shapeIs("(a+b)", y);
        C.due("b", valueOf(y, 1), 1);
    }

    // ---- what is alike

    @Says("ALIKE: NODES whose trees are so (operators, NUMBERS, NAMES, operands in order).")
    static void alike() {
        // 0 a 1 b 2 + 3 a 4 b 5 + 6 * 7 b 8 a 9 + 10 a 11 b 12 - 13 * 14 -
        NeedCode x = Check.of("(a+b)*(a+b)-(b+a)*(a-b)");
        int[] want = {0, 1, 2, 0, 1, 2, 6, 1, 0, 9, 0, 1, 12, 13, 14};
        for (int k = 0; k < want.length; k++) {
            C.due("operands in order: node(" + k + ", 8)", x.node(k, 8), want[k]);
        }
        // 0 1 1 10 2 * 3 1 4 11 5 * 6 + 7 a 8 - 9 0 10 -: the NAME a has number 0, it is not the NUMBER 0
        NeedCode y = Check.of("1*10+1*11-a-0");
        int[] numbers = {0, 1, 2, 0, 4, 5, 6, 7, 8, 9, 10};
        for (int k = 0; k < numbers.length; k++) {
            C.due("NUMBERS and NAMES: node(" + k + ", 8)", y.node(k, 8), numbers[k]);
        }
        // 0 a 1 ~ 2 ~ 3 a 4 ~ 5 - 6 a 7 ~ 8 ~ 9 -
        NeedCode z = Check.of("~~a-~a-~~a");
        int[] singles = {0, 1, 2, 0, 1, 5, 0, 1, 2, 9};
        for (int k = 0; k < singles.length; k++) {
            C.due("trees of ~: node(" + k + ", 8)", z.node(k, 8), singles[k]);
        }
        // trees that tell the same letters in another shape: a-b-c and a-(b-c)
        NeedCode w = Check.of("(a-b-c)*(a-(b-c))");
        C.due("another shape", w.node(9, 8), 9);
        NeedCode v = Check.of("(a/b)-(a/b)");
        C.due("what may trap is alike too", v.node(5, 8), 2);
    }

    private static void shared(NeedCode x, String... want) {
        C.due("count(6) of " + Check.shape(x), x.count(6), want.length);
        for (int c = 0; c < want.length; c++) {
            C.rowIs("shared " + c + " of " + Check.shape(x), want[c], x.shared(c, 0), x.shared(c, 1));
        }
        C.due("no more are shared", x.shared(want.length, 0), NeedCode.BAD);
    }

    @Says("SHARED: trees of operators that can't TRAP and occur twice at least, by their first NODES, rising: the first 5 of these "
            + "are numbered 0 .. .")
    static void whatIsShared() {
        shared(Check.of("a+a+a"));
        shared(Check.of("7*7*7"));
        shared(Check.of("a*b-c"));
        shared(Check.of("a*b-a*b"), "2 2");
        shared(Check.of("~a-~a*~a"), "1 3");
        shared(Check.of("a*b-b*a"));
        shared(Check.of("a/b-a/b"));
        shared(Check.of("(a#b)*(a#b)"));
        shared(Check.of("~(a/b)-~(a/b)"));
        // what stands below one that may trap is shared, it itself is not
        shared(Check.of("(~a/b)-(~a/b)"), "1 2");
        shared(Check.of("(a*b)/(a*b)"), "2 2");
        // rising, and the inner ones ahead of those they stand in
        shared(Check.of("(a*b+c)*(a*b+c)-a*b"), "2 3", "4 2");
        shared(Check.of("~b-~a-~a-~b"), "1 2", "3 2");
        shared(Check.of("~a+~b+~c+~d-~d-~c-~b-~a"), "1 2", "3 2", "6 2", "9 2");
        shared(Check.of("~a+~b+~c+~d+~e-~e-~d-~c-~b-~a"), "1 2", "3 2", "6 2", "9 2", "12 2");
        // of this tree, not of a greater one ahead of it
        NeedCode x = Check.of("a-(~b-~b)");
        shared(x, "2 2");
        Check.read(x, "a-~b");
        shared(x);
        // a sixth one
        shared(Check.of("~~~~~~a-~~~~~~a"), "1 2", "2 2", "3 2", "4 2", "5 2");
        shared(Check.of("~~~~~a*b-~~~~~a*b"), "1 2", "2 2", "3 2", "4 2", "5 2");
    }

    private static void cheapest(NeedCode x, int sum, int set) {
        C.rowIs("cheapest of " + Check.shape(x), Check.row(sum, set), x.cheapest(0), x.cheapest(1));
    }

    @Says("CHEAPEST by a set of these: each of the set, the one with the lower first NODE first, is KEPT by all REGISTERS, all of the "
            + "set with lower first NODES counting as LEAVES in it; then COST of the ROOT by all, all of the set counting as LEAVES: "
            + "the least of these sums, of all sets;")
    static void cheapestSums() {
        // nothing is shared: COST of the ROOT
        cheapest(Check.of("a"), 3, 0);
        cheapest(Check.of("a-(b-c)"), 9, 0);
        // none 17; kept 5 and 3, then 3, 2, 2
        cheapest(Check.of("a*b-a*b-a*b"), 15, 1);
        // none 22; ~b alone 14; b-~b alone: ~b kept 8, 1, 1, kept 11, then 1, 1
        cheapest(by(2, 1, 1, 6, 1, "(b-~b)-(b-~b)"), 13, 2);
        // a*b: 8 and 5, 5, 1, 2, 2; with a*b+c on top of it 8, 3 and 2, 3, then 3, 2, 2, 2
        cheapest(Check.of("(a*b+c)*(a*b+c)*(a*b)*(a*b)"), 23, 1);
        // the higher one counts the lower one as a LEAF: ~~b 1, 18, 1, the sum 1, 1, 1, then 1, 1, 1, 1, 1
        cheapest(by(2, 1, 1, 9, 1, "(~~b+c)*(~~b+c)*~~b*~~b*(~~b+c)"), 28, 6);
        // by all REGISTERS it is kept: a-(b-c) is 9 by 2, 13 by 1; the sum by 2: 9, 3, then 3, 2, 2; by 1: 13, 3, 3, 2, 2
        cheapest(by(2, 3, 3, 1, 2, "(a-(b-c))*(a-(b-c))*(a-(b-c))"), 19, 2);
        cheapest(by(1, 3, 3, 1, 2, "(a-(b-c))*(a-(b-c))*(a-(b-c))"), 23, 2);
        // all five: ~a, ~b, ~c, ~d, ~e by 1 + 9 + 1 each, then 1 and nine OPM
        cheapest(by(1, 1, 1, 9, 1, "~a+~b+~c+~d+~e-~e-~d-~c-~b-~a"), 65, 31);
        // of six only the first five may be in a set: 1, 45, 1, then 10, 10 and OPM with LEAF kept by 1
        cheapest(by(3, 1, 1, 9, 1, "(~~~~~~a)+(~~~~~~a)"), 69, 16);
    }

    @Says("which set, of several the least number.")
    static void leastSet() {
        // 0 and 1 are 11
        cheapest(by(3, 3, 1, 1, 2, "a*b-a*b"), 11, 0);
        // by one more for an OP it pays
        cheapest(by(3, 3, 1, 2, 2, "a*b-a*b"), 11, 1);
        // none 67, 1 and 2 are 53, 3 is 57
        cheapest(by(3, 8, 3, 7, 1, "~~b-(~~b+~b)"), 53, 1);
        // none 32, 1 and 3 are 27, 2 is 29
        cheapest(by(2, 2, 1, 3, 3, "~~a-(~~a-(a-~a))"), 27, 1);
        // none 22, 1 is 14, 2 and 3 are 13
        cheapest(by(2, 1, 1, 6, 1, "(b-~b)-(b-~b)"), 13, 2);
        // 1 and 4 are 21, the others more
        cheapest(by(3, 3, 3, 1, 2, "~(~b*~b)-~~(~b*~b)"), 21, 1);
        // 4 and 5 are 29
        cheapest(by(1, 3, 4, 3, 3, "~(a-~a)*~(a-~a)"), 29, 4);
        // 3 and 7 are 31
        cheapest(by(3, 3, 2, 2, 1, "a*((~~a+~~a)*((b-~a)+(b-~a)))"), 31, 3);
        // 7 and 13 are 87
        cheapest(by(2, 9, 1, 3, 3, "((~b+a)+(b-~b))*((~~b*(~b+a))-(~~b-(b-~b)))"), 87, 7);
    }

    // ---- images

    @Says("IMAGES 0, 1 keep the tree, NAMES, THE MACHINE; nothing else")
    static void imagesKeep() {
        for (int image = 0; image <= 1; image++) {
            NeedCode x = Check.of("a+(b/c)");
            for (int name = 0; name < 8; name++) {
                x.let(name, 10 * name + 3);
            }
            x.machine(2, 4, 5, 6, 7);
            C.due("keep", x.keep(image), 5);
            C.due("it can be undone still", x.count(8), 9);
            x.exchange(4);
            for (int name = 0; name < 8; name++) {
                x.let(name, 0);
            }
            x.machine(6, 9, 9, 9, 9);
            C.due("a trap", x.value(4), NeedCode.TRAP);
            x.let(7, 1);
            Check.type(x, "a;");
            C.due("back", x.back(image), 5);
            sameAs(x, "a+(b/c)");
            machineIs(x, "2 4 5 6 7");
            C.due("asked() is not kept", x.asked(), 0);
            C.due("trapped() is not kept", x.trapped(), 2);
            C.due("THE TEXT is not kept", x.count(7), 2);
            C.due("its fault", x.tree(), -11);
            for (int name = 0; name < 8; name++) {
                x.let(name, 0);
                C.due("a NAME", x.asked(), 10 * name + 3);
            }
        }
        for (int image : new int[] {-1, 2, MIN, MAX}) {
            NeedCode x = Check.of("a");
            C.due("there is no such IMAGE", x.keep(image), NeedCode.BAD);
            C.due("there is no such IMAGE", x.back(image), NeedCode.BAD);
        }
    }

    @Says("(nothing can be UNDONE behind back()).")
    static void nothingBehindBack() {
        NeedCode x = Check.of("a+b");
        x.let(0, 1);
        x.keep(0);
        x.exchange(2);
        x.machine(1, 1, 1, 1, 1);
        C.due("three can be", x.count(8), 3);
        x.back(0);
        C.due("none can be", x.count(8), 0);
        C.due("none can be", x.undo(), NeedCode.STATE);
        C.shapeIs("(a+b)", x);
        C.due("a", valueOf(x, 0), 1);
        x.let(0, 2);
        C.due("later ones can be", x.undo(), 0);
        C.due("a", valueOf(x, 0), 1);
        C.due("back once more", x.back(0), 3);
    }

    @Says("(Read anew: NAMES, THE MACHINE stay; IMAGES are gone, nothing can be UNDONE.)")
    static void readAnew() {
        NeedCode x = Check.of("a/b");
        for (int name = 0; name < 8; name++) {
            x.let(name, name + 20);
        }
        x.machine(2, 4, 5, 6, 7);
        x.keep(0);
        x.keep(1);
        C.due("read anew", Check.read(x, "h"), 1);
        machineIs(x, "2 4 5 6 7");
        C.due("nothing is known", x.count(8), 0);
        C.due("nothing can be undone", x.undo(), NeedCode.STATE);
        C.due("image 0 is gone", x.back(0), NeedCode.STATE);
        C.due("image 1 is gone", x.back(1), NeedCode.STATE);
        C.due("h", valueOf(x, 0), 27);
        for (int name = 0; name < 8; name++) {
            x.let(name, 0);
            C.due("a NAME", x.asked(), name + 20);
        }
        // the first tree of an object is read as well: what was done ahead of it can't be undone
        NeedCode y = new NeedCode();
        y.let(0, 5);
        y.machine(1, 1, 1, 1, 1);
        C.due("two can be", y.count(8), 2);
        Check.read(y, "a");
        C.due("nothing can be undone", y.undo(), NeedCode.STATE);
        C.due("a", valueOf(y, 0), 5);
        machineIs(y, "1 1 1 1 1");
        // a text with a FAULT is not read: all of that stays
        y.let(0, 6);
        y.keep(1);
        Check.read(y, "a+");
        C.due("the image stays", y.back(1), 1);
    }
}
