import java.io.IOException;

/** 2 THE MACHINE: a test of its own for each sentence. */
public final class MachineSentencesTest {
    static final Check C = new Check("MachineSentencesTest");

    public static void main(String[] args) throws IOException {
        Sentences.runAll(MachineSentencesTest.class, C);
    }

    private static NeedCode by(int registers, int load, int store, int op, int opm, String text) {
        NeedCode x = Check.of(text);
        x.machine(registers, load, store, op, opm);
        return x;
    }

    private static void priced(NeedCode x, int k, int i, int cost, int way) {
        C.rowIs("cost and way of " + k + " by " + i + " of " + Check.shape(x), Check.row(cost, way), x.cost(k, i), x.way(k, i));
    }

    private static void rootPriced(NeedCode x, int i, int cost, int way) {
        priced(x, x.count(0) - 1, i, cost, way);
    }

    private static void machineIs(NeedCode x, String want) {
        C.rowIs("the machine", want, x.count(1), x.count(2), x.count(3), x.count(4), x.count(5));
    }

    @Says("THE MACHINE has REGISTERS (1 .. 6; 3 at first)")
    static void registers() {
        NeedCode x = Check.of("a");
        C.due("3 at first", x.count(1), 3);
        C.due("by 3", x.cost(0, 3), 3);
        C.due("by 4", x.cost(0, 4), NeedCode.BAD);
        for (int registers : new int[] {Integer.MIN_VALUE, -1, 0, 7, 8, Integer.MAX_VALUE}) {
            C.due(registers + " registers", x.machine(registers, 1, 1, 1, 1), NeedCode.BAD);
            machineIs(x, "3 3 3 1 2");
        }
        for (int registers = 1; registers <= 6; registers++) {
            C.due(registers + " registers", x.machine(registers, 5, 5, 5, 5), 5);
            C.due("count(1)", x.count(1), registers);
            C.due("by all", x.cost(0, registers), 5);
            C.due("by one more", x.cost(0, registers + 1), NeedCode.BAD);
        }
    }

    @Says("and tells what LOAD (3 at first), STORE (3), OP of registers (1), OPM with a LEAF or a cell (2) cost (1 .. 9 each).")
    static void prices() {
        NeedCode x = new NeedCode();
        machineIs(x, "3 3 3 1 2");
        for (int at = 1; at <= 4; at++) {
            for (int price : new int[] {Integer.MIN_VALUE, -1, 0, 10, 11, Integer.MAX_VALUE}) {
                int[] m = {2, 4, 4, 4, 4};
                m[at] = price;
                C.due("price " + at + " " + price, x.machine(m[0], m[1], m[2], m[3], m[4]), NeedCode.BAD);
                machineIs(x, "3 3 3 1 2");
            }
        }
        for (int at = 1; at <= 4; at++) {
            for (int price : new int[] {1, 9}) {
                int[] m = {2, 4, 4, 4, 4};
                m[at] = price;
                C.due("price " + at + " " + price, x.machine(m[0], m[1], m[2], m[3], m[4]), 0);
                machineIs(x, Check.row(m));
            }
        }
        // LOAD; ~a by LOAD, OP; a-b by LOAD, OPM; STORE 2, LOAD, OPM twice
        C.due("LOAD", by(1, 8, 2, 5, 7, "a").cost(0, 1), 8);
        C.due("OP", by(1, 8, 2, 5, 7, "~a").cost(1, 1), 13);
        C.due("OPM with a LEAF", by(1, 8, 2, 5, 7, "a-b").cost(2, 1), 15);
        C.due("STORE, OPM with a cell", by(1, 8, 2, 5, 7, "a-(b-c)").cost(4, 1), 32);
    }

    @Says("COST of a NODE by i REGISTERS (1 .. as many as there are): of a LEAF LOAD; of ~ COST of its operand by i, and OP;")
    static void costsOfLeafAndSingle() {
        NeedCode x = by(6, 7, 3, 4, 2, "~~(a-(b-5))");
        for (int i = 1; i <= 6; i++) {
            priced(x, 0, i, 7, 0);
            priced(x, 2, i, 7, 0);
            priced(x, 3, i, 9, 3);
            // by 1: 12 and 7, 2; by more than 1 a STORE costs as well: 7 and 9, 4
            priced(x, 4, i, i == 1 ? 21 : 20, i == 1 ? 3 : 1);
            priced(x, 5, i, i == 1 ? 25 : 24, 0);
            priced(x, 6, i, i == 1 ? 29 : 28, 0);
        }
        C.due("by 0", x.cost(6, 0), NeedCode.BAD);
        C.due("by 7", x.cost(6, 7), NeedCode.BAD);
        x.machine(1, 7, 3, 4, 2);
        C.due("by 1 of 1", x.cost(6, 1), 29);
        C.due("by 2 of 1", x.cost(6, 2), NeedCode.BAD);
    }

    @Says("of another operator that of the cheapest of the WAYS that may be, of several the first.")
    static void firstOfSeveral() {
        // all six of a+b cost 3; without WAY 4 five; by 1 only 3, 4 and 6 may be
        rootPriced(by(2, 1, 1, 1, 2, "a+b"), 2, 3, 1);
        rootPriced(by(2, 1, 1, 1, 2, "a/b"), 2, 3, 1);
        rootPriced(by(2, 1, 1, 1, 1, "a*b"), 1, 2, 3);
        rootPriced(by(2, 1, 1, 1, 1, "a/b"), 1, 2, 3);
        // 1 and 2 are 4, the others more
        rootPriced(by(2, 1, 1, 1, 3, "~g+e"), 2, 4, 1);
        // 1 and 3 are 6, the others 9
        rootPriced(by(2, 1, 2, 1, 2, "(b/~a)+e"), 2, 6, 1);
        // 1 and 4 are 6, 5 and 6 are 8
        rootPriced(by(2, 1, 1, 2, 1, "(a/e)+(g#g)"), 2, 6, 1);
        // 1 and 5 are 9, 4 is 11, 6 is 13
        rootPriced(by(2, 1, 1, 1, 4, "(d#g)+(g#e)"), 2, 9, 1);
        // 1 and 6 are 11, 5 is 14
        rootPriced(by(2, 2, 1, 5, 1, "(d#h)/(b/h)"), 2, 11, 1);
        // 2 and 3 are 35, 1 is 42, 5 is 38, 6 is 45
        rootPriced(by(2, 2, 8, 3, 2, "(b-~f)/(h/(c-~h))"), 2, 35, 2);
        // 2 and 5 are 5, 1 and 4 are 6, 3 and 6 are 8
        rootPriced(by(2, 1, 1, 1, 3, "h+(g/f)"), 2, 5, 2);
        // 2, 4 and 5 are 6, the others 10
        rootPriced(by(2, 1, 3, 1, 2, "e+(e/~b)"), 2, 6, 2);
        // 3 and 4 are 8, 6 is 11
        rootPriced(by(1, 2, 1, 1, 1, "~b#~b"), 1, 8, 3);
        // 4 and 5 are 19, 1 and 6 are 22
        rootPriced(by(2, 1, 2, 2, 3, "(g/c)*(b/(h-(c*f)))"), 2, 19, 4);
        // 5 and 6 are 69, 1 is 79
        rootPriced(by(2, 8, 2, 5, 3, "(b#d)/(((f/d)/(h/c))/(d#a))"), 2, 69, 5);
        // 2, 3, 5 and 6 are 29, 1 is 34
        rootPriced(by(2, 3, 2, 6, 4, "g-((c/a)-(g#e))"), 2, 29, 2);
    }

    @Says("KEPT by i: of a LEAF 0, else COST by i and STORE.")
    static void kept() {
        // LEAVES that are kept cost nothing: only LOAD, OPM
        rootPriced(by(1, 3, 9, 1, 2, "a-b"), 1, 5, 3);
        rootPriced(by(1, 3, 9, 1, 2, "a-7"), 1, 5, 3);
        rootPriced(by(1, 3, 9, 1, 2, "7*(b-c)"), 1, 7, 4);
        // ~b is no LEAF: 4 and 9, then 3, 2
        rootPriced(by(1, 3, 9, 1, 2, "a-~b"), 1, 18, 3);
        // c-d 5; b-(c-d) 6 and 3, 2; then 12 and 3, 2
        rootPriced(by(2, 3, 1, 9, 2, "a-(b-(c-d))"), 1, 17, 3);
        rootPriced(by(2, 3, 1, 9, 2, "a-(b-(c-d))"), 2, 17, 3);
        // by i: what costs less by 2 is kept for less by 2
        NeedCode x = by(3, 9, 1, 1, 1, "((a/b)-(c/d))-((e/f)-(g/h))");
        // a/b 10; 6 is 11, 11, 9, 1: 32 by 1; 1 is 21 by 2
        priced(x, 6, 1, 32, 6);
        priced(x, 6, 2, 21, 1);
        // by 1: 33 and 33 kept, 9, 1; by 2: 1 is 21, 32, 1; 5 is 22, 21, 9, 1; 6 is 22, 22, 9, 1
        priced(x, 14, 1, 76, 6);
        priced(x, 14, 2, 53, 5);
        priced(x, 14, 3, 43, 1);
    }

    @Says("WAY 1 (i 2 or more): COST of l by i, of r by i less 1, OP.")
    static void wayOne() {
        NeedCode x = by(3, 1, 9, 1, 9, "a-b");
        rootPriced(x, 1, 10, 3);
        rootPriced(x, 2, 3, 1);
        rootPriced(x, 3, 3, 1);
        // l by 2 is 11 (by 1 15), r by 1 is 5
        rootPriced(by(2, 3, 3, 1, 2, "((a-b)-(c-d))-(e-f)"), 2, 17, 1);
        // r by 1 is 15, by 2 11; l is 11 by 2 and 3
        NeedCode y = by(3, 3, 3, 1, 2, "((a-b)-(c-d))-((e-f)-(g-h))");
        rootPriced(y, 2, 27, 1);
        rootPriced(y, 3, 23, 1);
        // both may trap
        rootPriced(by(2, 3, 3, 1, 2, "(a/b)-(c/d)"), 2, 11, 1);
    }

    @Says("WAY 2 (i 2 or more, not if both MAY TRAP): COST of r by i, of l by i less 1, OP.")
    static void wayTwo() {
        // r by 2 is 11 (by 1 15), l by 1 is 5
        NeedCode x = by(3, 3, 3, 1, 2, "(a-b)-((c-d)-(e-f))");
        rootPriced(x, 1, 25, 3);
        rootPriced(x, 2, 17, 2);
        // by 3 WAY 1 costs the same
        rootPriced(x, 3, 17, 1);
        // only l may trap, only r may
        rootPriced(by(2, 3, 3, 1, 2, "(a/b)-((c-d)-(e-f))"), 2, 17, 2);
        rootPriced(by(2, 3, 3, 1, 2, "(a-b)-((c/d)-(e-f))"), 2, 17, 2);
        rootPriced(by(2, 3, 3, 1, 2, "(a-b)/((c/d)-(e#f))"), 2, 17, 2);
        // both may: 1 is 5, 15, 1; 5 is 8, 11, 3, 1
        rootPriced(by(2, 3, 3, 1, 2, "(a/b)-((c#d)-(e-f))"), 2, 21, 1);
        rootPriced(by(2, 3, 3, 1, 2, "(a/b)-((c#d)-(e/f))"), 2, 23, 5);
        rootPriced(by(2, 3, 3, 1, 2, "~(a/b)-~~((c#d)-(e/f))"), 2, 26, 5);
    }

    @Says("WAY 3 (not if both MAY TRAP): KEPT of r by i, COST of l by i, OPM.")
    static void wayThree() {
        rootPriced(by(1, 3, 3, 1, 2, "(a-b)-(c-d)"), 1, 15, 3);
        rootPriced(by(1, 3, 3, 1, 2, "(a/b)-(c-d)"), 1, 15, 3);
        rootPriced(by(1, 3, 3, 1, 2, "(a-b)-(c/d)"), 1, 15, 3);
        rootPriced(by(1, 3, 3, 1, 2, "(a-b)/(c-d)"), 1, 15, 3);
        rootPriced(by(1, 3, 3, 1, 2, "(a/b)/c"), 1, 7, 3);
        // 6 is 8, 8, 3, 2
        rootPriced(by(1, 3, 3, 1, 2, "(a/b)-(c#d)"), 1, 21, 6);
        // 4 is 8, 5, 2
        rootPriced(by(1, 3, 3, 1, 2, "(a/b)+(c#d)"), 1, 15, 4);
    }

    @Says("WAY 4 (a COMMUTING one): KEPT of l by i, COST of r by i, OPM.")
    static void wayFour() {
        rootPriced(by(2, 3, 3, 1, 2, "a+(b-c)"), 1, 7, 4);
        rootPriced(by(2, 3, 3, 1, 2, "a*(b-c)"), 2, 7, 4);
        rootPriced(by(2, 3, 3, 1, 2, "a#(b/c)"), 2, 7, 4);
        rootPriced(by(2, 3, 3, 1, 2, "a-(b-c)"), 1, 13, 3);
        rootPriced(by(2, 3, 3, 1, 2, "a/(b-c)"), 1, 13, 3);
        // both may trap; l is kept: 8, 5, 2
        rootPriced(by(1, 3, 3, 1, 2, "(a/b)*(c/d)"), 1, 15, 4);
        rootPriced(by(1, 3, 3, 1, 2, "(a#b)#(c#d)"), 1, 15, 4);
    }

    @Says("WAY 5 (i 2 or more): KEPT of l by i, COST of r by i, LOAD, OP.")
    static void wayFive() {
        // OPM is dear: by 1 a/b is 10, 6 is 11, 11, 1, 9; by 2 a/b is 3, 5 is 4, 3, 1, 1, 1 is 3, 10, 1
        NeedCode x = by(2, 1, 1, 1, 9, "(a/b)-(c/d)");
        rootPriced(x, 1, 32, 6);
        rootPriced(x, 2, 9, 5);
        // one may trap: 2 is 3, 10, 1
        rootPriced(by(2, 1, 1, 1, 9, "(a/b)-(c-d)"), 2, 9, 5);
        rootPriced(by(2, 3, 3, 1, 2, "(a/b)-((c/d)-(e/f))"), 2, 23, 5);
        // by 3 WAY 1 needs no cell: 5, 11, 1
        rootPriced(by(3, 3, 3, 1, 2, "(a/b)-((c/d)-(e/f))"), 3, 17, 1);
    }

    @Says("WAY 6: KEPT of l by i, KEPT of r by i, LOAD, OPM.")
    static void waySix() {
        rootPriced(by(1, 3, 4, 1, 2, "(a/b)-(c/d)"), 1, 23, 6);
        rootPriced(by(1, 3, 4, 1, 2, "(a#b)/(c/d)"), 1, 23, 6);
        // OP is dear, by 2 it may be as well: 3, 3, 2, 1 against 2, 2, 9
        rootPriced(by(2, 1, 1, 9, 1, "(a/b)-(c/d)"), 2, 8, 6);
        // one that can't trap goes by WAY 3
        rootPriced(by(1, 3, 4, 1, 2, "(a/b)-(c*d)"), 1, 16, 3);
    }

    // ---- THE PROGRAM

    @Says("THE PROGRAM of the ROOT by all REGISTERS: LINES 0, 1, ..: to have a NODE in register b by i REGISTERS (the ROOT in 0 "
            + "by all): LEAF: LOAD b from it. ~: its operand likewise, then OP b from b.")
    static void linesOfLeafAndSingle() {
        C.lines("a NAME", Check.of("h"), "0 0 0 1 7");
        C.lines("a NUMBER", Check.of("99"), "0 0 0 0 99");
        C.lines("~", Check.of("~~5"), "0 0 0 0 5", "1 0 1 0 0", "1 0 2 0 0");
        C.lines("~ in register 1", Check.of("(a-b)-~c"), "0 0 0 1 0", "2 0 2 1 1", "0 1 3 1 2", "1 1 4 1 1", "1 0 5 0 1");
        // as deep as it gets
        NeedCode x = Check.of("~".repeat(30) + "h");
        C.due("31 LINES", x.program(3, 0), 31);
        C.holds("the first one", Check.line(x, 0).equals("0 0 0 1 7"));
        C.holds("the last one", Check.line(x, 30).equals("1 0 30 0 0"));
        // by all: by 1 it would go through a cell
        C.lines("by all", by(2, 3, 3, 1, 2, "a-(b-c)"), "0 0 0 1 0", "0 1 1 1 1", "2 1 3 1 2", "1 0 4 0 1");
        C.lines("by all", by(1, 3, 3, 1, 2, "a-(b-c)"), "0 0 1 1 1", "2 0 3 1 2", "3 0 3 2 0", "0 0 0 1 0", "2 0 4 2 0");
    }

    @Says("WAY 1: l in b by i, r in b and 1 by i less 1, OP b from b, b and 1.")
    static void linesOfWayOne() {
        C.lines("in 0 and 1", Check.of("(a-b)-(c-d)"),
                "0 0 0 1 0", "2 0 2 1 1", "0 1 3 1 2", "2 1 5 1 3", "1 0 6 0 1");
        // r in 1 by 2: a WAY 1 of its own from 1 and 2
        C.lines("in 1 and 2", Check.of("((a-b)-(c-d))-((e-f)-(g-h))"),
                "0 0 0 1 0", "2 0 2 1 1", "0 1 3 1 2", "2 1 5 1 3", "1 0 6 0 1",
                "0 1 7 1 4", "2 1 9 1 5", "0 2 10 1 6", "2 2 12 1 7", "1 1 13 1 2", "1 0 14 0 1");
        // r in 1 by 1: through a cell there
        C.lines("by i less 1", by(2, 3, 3, 1, 2, "((a-b)-(c-d))-(e-(f-g))"),
                "0 0 0 1 0", "2 0 2 1 1", "0 1 3 1 2", "2 1 5 1 3", "1 0 6 0 1",
                "0 1 8 1 5", "2 1 10 1 6", "3 1 10 2 0", "0 1 7 1 4", "2 1 11 2 0", "1 0 12 0 1");
    }

    @Says("WAY 2: r in b by i, l in b and 1 by i less 1, OP b from b and 1, b.")
    static void linesOfWayTwo() {
        C.lines("in 0 and 1", by(2, 3, 3, 1, 2, "(a-b)-((c-d)-(e-f))"),
                "0 0 3 1 2", "2 0 5 1 3", "0 1 6 1 4", "2 1 8 1 5", "1 0 9 0 1",
                "0 1 0 1 0", "2 1 2 1 1", "1 0 10 1 0");
        // the WAY 2 above stands in 1 and 2 here, by 2 of 3: OP 1 from 2, 1
        NeedCode x = by(3, 3, 3, 1, 2, "((a-b)-(c-d))-((e-f)-((g-h)-(a-c)))");
        C.due("way of r by 2", x.way(17, 2), 2);
        C.due("way of the ROOT", x.way(18, 3), 1);
        C.holds("in 1 and 2", Check.line(x, 12).equals("1 1 17 2 1"));
        // l in 1 by 2 of 3: a WAY 1 of its own from 1 and 2; 1 is 11, 27, 1
        NeedCode w = by(3, 3, 3, 1, 2, "((a-b)-(c-d))-(((e-f)-(g-h))-((a-c)-(b-d)))");
        rootPriced(w, 3, 35, 2);
        String[] end = {"0 1 0 1 0", "2 1 2 1 1", "0 2 3 1 2", "2 2 5 1 3", "1 1 6 1 2", "1 0 22 1 0"};
        C.due("lines", w.program(3, 0), 17);
        for (int j = 0; j < end.length; j++) {
            C.holds("by 2 of 3, line " + (11 + j) + " is " + Check.line(w, 11 + j), Check.line(w, 11 + j).equals(end[j]));
        }
        // l in 1 by 1: through a cell there; 0 a 1 b 2 c 3 - 4 -
        NeedCode y = by(2, 3, 3, 1, 2, "(a-(b-c))-(((a-b)-(c-d))-((e-f)-(g-h)))");
        C.due("way of the ROOT", y.way(20, 2), 2);
        String[] tail = {"0 1 1 1 1", "2 1 3 1 2", "3 1 3 2 1", "0 1 0 1 0", "2 1 4 2 1", "1 0 20 1 0"};
        C.due("lines", y.program(2, 0), 18);
        for (int j = 0; j < tail.length; j++) {
            C.holds("by i less 1, line " + (12 + j) + " is " + Check.line(y, 12 + j), Check.line(y, 12 + j).equals(tail[j]));
        }
    }

    @Says("WAY 3: r KEPT, l in b by i, OPM b from b and r.")
    static void linesOfWayThree() {
        C.lines("r a NAME", Check.of("a-h"), "0 0 0 1 0", "2 0 2 1 7");
        C.lines("r a NUMBER", Check.of("a-0"), "0 0 0 1 0", "2 0 2 0 0");
        C.lines("r a cell", by(1, 3, 3, 1, 2, "(a-b)-~c"),
                "0 0 3 1 2", "1 0 4 0 0", "3 0 4 2 0", "0 0 0 1 0", "2 0 2 1 1", "2 0 5 2 0");
        // by i: both by 2, though a STORE stands between
        C.lines("r by 2", by(2, 9, 1, 9, 1, "(a-b)-(c-d)"),
                "0 0 3 1 2", "2 0 5 1 3", "3 0 5 2 0", "0 0 0 1 0", "2 0 2 1 1", "2 0 6 2 0");
    }

    @Says("WAY 4: l KEPT, r in b by i, OPM b from b and l.")
    static void linesOfWayFour() {
        C.lines("l a NUMBER", Check.of("5*(b-c)"), "0 0 1 1 1", "2 0 3 1 2", "2 0 4 0 5");
        C.lines("l a NAME", Check.of("h#~c"), "0 0 1 1 2", "1 0 2 0 0", "2 0 3 1 7");
        C.lines("l a cell", by(1, 3, 3, 1, 2, "(a/b)#(c/d)"),
                "0 0 0 1 0", "2 0 2 1 1", "3 0 2 2 0", "0 0 3 1 2", "2 0 5 1 3", "2 0 6 2 0");
        C.lines("in register 1", by(2, 3, 3, 1, 2, "(a-b)-c*(d-e)"),
                "0 0 0 1 0", "2 0 2 1 1", "0 1 4 1 3", "2 1 6 1 4", "2 1 7 1 2", "1 0 8 0 1");
    }

    @Says("WAY 5: l KEPT, r in b by i, LOAD b and 1 from l, OP b from b and 1, b.")
    static void linesOfWayFive() {
        C.lines("in 0 and 1", by(2, 3, 3, 1, 2, "(a/b)-((c/d)-(e/f))"),
                "0 0 0 1 0", "2 0 2 1 1", "3 0 2 2 0",
                "0 0 3 1 2", "2 0 5 1 3", "0 1 6 1 4", "2 1 8 1 5", "1 0 9 0 1",
                "0 1 2 2 0", "1 0 10 1 0");
        // in 1 and 2, by 2 of 3, as the right part of a WAY 1: 1 is 11, 23, 1; 5 is 14, 17, 3, 1
        NeedCode x = by(3, 3, 3, 1, 2, "((g/h)-(h/g))-((a/b)-((c/d)-(e/f)))");
        rootPriced(x, 3, 35, 1);
        C.lines("in 1 and 2", x, "0 0 0 1 6", "2 0 2 1 7", "0 1 3 1 7", "2 1 5 1 6", "1 0 6 0 1",
                "0 1 7 1 0", "2 1 9 1 1", "3 1 9 2 0",
                "0 1 10 1 2", "2 1 12 1 3", "0 2 13 1 4", "2 2 15 1 5", "1 1 16 1 2",
                "0 2 9 2 0", "1 1 17 2 1", "1 0 18 0 1");
    }

    @Says("WAY 6: l KEPT, r KEPT, LOAD b from l, OPM b from b and r.")
    static void linesOfWaySix() {
        C.lines("in 0", by(1, 3, 3, 1, 2, "(a/b)-(c/d)"),
                "0 0 0 1 0", "2 0 2 1 1", "3 0 2 2 0", "0 0 3 1 2", "2 0 5 1 3", "3 0 5 2 1", "0 0 2 2 0", "2 0 6 2 1");
        // in 1 by 1, as the right part of a WAY 1: 1 is 5, 17, 2; 5 is 6, 12, 4, 2; 6 is 6, 13, 4, 1
        NeedCode x = by(2, 4, 1, 2, 1, "(a/b)-((c/d)-(e/f))");
        rootPriced(x, 2, 24, 1);
        C.lines("in 1", x, "0 0 0 1 0", "2 0 2 1 1",
                "0 1 3 1 2", "2 1 5 1 3", "3 1 5 2 0", "0 1 6 1 4", "2 1 8 1 5", "3 1 8 2 1", "0 1 5 2 0", "2 1 9 2 1",
                "1 0 10 0 1");
        C.lines("l is no LEAF by ~", by(2, 1, 1, 9, 1, "~(a/b)-(c/d)"), "0 0 0 1 0", "2 0 2 1 1", "1 0 3 0 0", "3 0 3 2 0",
                "0 0 4 1 2", "2 0 6 1 3", "3 0 6 2 1", "0 0 3 2 0", "2 0 7 2 1");
    }

    @Says("KEPT: nothing for a LEAF; else the NODE in b by i, STORE b to the next cell (0, 1, .. as they are used).")
    static void cells() {
        C.due("nothing for a LEAF", Check.of("a-b-c*7").program(3, 1), 0);
        NeedCode x = by(1, 3, 3, 1, 2, "((a/b)/(c/d))/(e/f)");
        C.lines("the inner ones first", x, "0 0 0 1 0", "2 0 2 1 1", "3 0 2 2 0", "0 0 3 1 2", "2 0 5 1 3", "3 0 5 2 1",
                "0 0 2 2 0", "2 0 6 2 1", "3 0 6 2 2",
                "0 0 7 1 4", "2 0 9 1 5", "3 0 9 2 3", "0 0 6 2 2", "2 0 10 2 3");
        C.due("four cells", x.program(1, 1), 4);
        // as many as there can be: of 15 operators all but the ROOT, each in a cell of its own
        NeedCode y = by(1, 1, 1, 1, 1, "(((a/b)/(c/d))/((e/f)/(g/h)))/(((a/b)/(c/d))/((e/f)/(g/h)))");
        C.due("31 nodes", y.count(0), 31);
        C.due("14 cells", y.program(1, 1), 14);
        int next = 0;
        for (int j = 0; j < y.program(1, 0); j++) {
            if (y.line(j, 0) == 3) {
                C.due("the cell of line " + j, y.line(j, 4), next);
                next++;
            }
        }
        C.due("14 cells", next, 14);
    }

    @Says("A LINE: 0 what it is (0 LOAD, 1 OP, 2 OPM, 3 STORE), 1 the register, 2 the NODE that is done then (LOAD: the NODE that "
            + "is loaded; STORE: that is kept), 3 of OP the first register from which it comes, of LOAD, OPM 0 a NUMBER, 1 a NAME, "
            + "2 a cell, of STORE 2, 4 of OP the second register (of ~ the same), of LOAD, OPM the NUMBER, the number of the NAME "
            + "(0 a), the cell, of STORE the cell.")
    static void partsOfLines() {
        // 0 31 1 h 2 / 3 a 4 32 5 / 6 c 7 d 8 / 9 - 10 -, by 2: WAY 5
        NeedCode x = by(2, 3, 3, 1, 2, "(31/h)-((a/32)-(c/d))");
        C.lines("all kinds", x, "0 0 0 0 31", "2 0 2 1 7", "3 0 2 2 0",
                "0 0 3 1 0", "2 0 5 0 32", "0 1 6 1 2", "2 1 8 1 3", "1 0 9 0 1", "0 1 2 2 0", "1 0 10 1 0");
        NeedCode y = by(1, 3, 3, 1, 2, "(31/h)-~(a/32)");
        C.lines("a cell by OPM", y, "0 0 0 0 31", "2 0 2 1 7", "3 0 2 2 0",
                "0 0 3 1 0", "2 0 5 0 32", "1 0 6 0 0", "3 0 6 2 1", "0 0 2 2 0", "2 0 7 2 1");
    }
}
