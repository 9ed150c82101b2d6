/** Promises 7 to 12: cost, way, program, line, run, fewest. */
public final class ProgramsTest {
    private static final Check C = new Check("ProgramsTest");

    public static void main(String[] args) {
        wayOne();
        wayTwo();
        waysThreeAndFour();
        wayFive();
        waySix();
        costsOfOthers();
        refusedCosts();
        otherMachines();
        programs();
        sources();
        runs();
        trapsOfRuns();
        fewest();
        C.end();
    }

    private static void priced(NeedCode x, int k, int i, int cost, int way) {
        C.due("cost(" + k + ", " + i + ")", x.cost(k, i), cost);
        C.due("way(" + k + ", " + i + ")", x.way(k, i), way);
    }

    private static void wayOne() {
        NeedCode x = Check.of("(a-b)-(c-d)");
        priced(x, 2, 1, 5, 3);
        // by 1: c-d kept 8, a-b 5, 2
        priced(x, 6, 1, 15, 3);
        priced(x, 6, 2, 11, 1);
        priced(x, 6, 3, 11, 1);
        C.lines("way 1", x, "0 0 0 1 0", "2 0 2 1 1", "0 1 3 1 2", "2 1 5 1 3", "1 0 6 0 1");
    }

    private static void wayTwo() {
        NeedCode x = Check.of("(a*b)-((c*d)-(e*f))");
        x.machine(2, 3, 3, 1, 2);
        priced(x, 9, 1, 15, 3);
        priced(x, 9, 2, 11, 1);
        priced(x, 10, 2, 17, 2);
        // by 1: 15 and 3, 5, 2
        priced(x, 10, 1, 25, 3);
        C.lines("way 2", x, "0 0 3 1 2", "2 0 5 1 3", "0 1 6 1 4", "2 1 8 1 5", "1 0 9 0 1",
                "0 1 0 1 0", "2 1 2 1 1", "1 0 10 1 0");
        C.due("program(2, 2)", x.program(2, 2), 17);
        // l in register 1 by one less: it goes through a cell there
        NeedCode v = Check.of("(a-(b-c))-(((a-b)-(c-d))-((e-f)-(g-h)))");
        v.machine(2, 3, 3, 1, 2);
        priced(v, 4, 2, 9, 1);
        priced(v, 4, 1, 13, 3);
        // 1: 11 + 15 + 1; 3: 14 + 11 + 2
        priced(v, 19, 2, 27, 1);
        // 1: 9 + 35 + 1; 2: 27 + 13 + 1; 3: 30 + 9 + 2
        priced(v, 20, 2, 41, 2);
        C.due("lines of way 2", v.program(2, 0), 18);
        C.due("cells of way 2", v.program(2, 1), 2);
        // both may trap: not WAY 2, not WAY 3
        NeedCode y = Check.of("(a/b)-((c/d)-(e/f))");
        y.machine(2, 3, 3, 1, 2);
        priced(y, 9, 1, 21, 6);
        priced(y, 9, 2, 11, 1);
        // 1: 5 + 21 + 1 is 27; 5: 8 + 11 + 3 + 1 is 23; 6: 8 + 14 + 3 + 2 is 27
        priced(y, 10, 2, 23, 5);
        // one of them may: WAY 2
        NeedCode z = Check.of("(a*b)-((c/d)-(e/f))");
        z.machine(2, 3, 3, 1, 2);
        priced(z, 10, 2, 17, 2);
    }

    private static void waysThreeAndFour() {
        NeedCode x = Check.of("a+b");
        priced(x, 2, 1, 5, 3);
        priced(x, 2, 3, 5, 3);
        C.lines("way 3", x, "0 0 0 1 0", "2 0 2 1 1");
        NeedCode y = Check.of("5*(b-c)");
        priced(y, 4, 1, 7, 4);
        priced(y, 4, 3, 7, 4);
        C.lines("way 4", y, "0 0 1 1 1", "2 0 3 1 2", "2 0 4 0 5");
        // not commuting: KEPT of b-c 8, a 3, 2
        NeedCode z = Check.of("a-(b-c)");
        priced(z, 4, 1, 13, 3);
        priced(z, 4, 2, 9, 1);
        z.machine(1, 3, 3, 1, 2);
        C.lines("way 3 by a cell", z, "0 0 1 1 1", "2 0 3 1 2", "3 0 3 2 0", "0 0 0 1 0", "2 0 4 2 0");
        // both may trap, commuting: 4, 8 + 5 + 2
        NeedCode w = Check.of("(a/b)#(c/d)");
        priced(w, 6, 1, 15, 4);
        w.machine(1, 3, 3, 1, 2);
        C.lines("way 4 by a cell", w, "0 0 0 1 0", "2 0 2 1 1", "3 0 2 2 0", "0 0 3 1 2", "2 0 5 1 3", "2 0 6 2 0");
    }

    private static void wayFive() {
        NeedCode x = Check.of("(a/b)-((c/d)-(e/f))");
        x.machine(2, 3, 3, 1, 2);
        C.lines("way 5", x, "0 0 0 1 0", "2 0 2 1 1", "3 0 2 2 0",
                "0 0 3 1 2", "2 0 5 1 3", "0 1 6 1 4", "2 1 8 1 5", "1 0 9 0 1",
                "0 1 2 2 0", "1 0 10 1 0");
        C.due("program(2, 0)", x.program(2, 0), 10);
        C.due("program(2, 1)", x.program(2, 1), 1);
    }

    private static void waySix() {
        NeedCode x = Check.of("(a/b)-(c/d)");
        priced(x, 6, 1, 21, 6);
        priced(x, 6, 2, 11, 1);
        x.machine(1, 3, 3, 1, 2);
        C.lines("way 6", x, "0 0 0 1 0", "2 0 2 1 1", "3 0 2 2 0", "0 0 3 1 2", "2 0 5 1 3", "3 0 5 2 1",
                "0 0 2 2 0", "2 0 6 2 1");
        C.due("program(1, 1)", x.program(1, 1), 2);
    }

    private static void costsOfOthers() {
        NeedCode x = Check.of("~~a");
        priced(x, 0, 1, 3, 0);
        priced(x, 1, 2, 4, 0);
        priced(x, 2, 3, 5, 0);
        C.lines("~", x, "0 0 0 1 0", "1 0 1 0 0", "1 0 2 0 0");
        NeedCode y = Check.of("(a-b)-~c");
        C.lines("~ in register 1", y, "0 0 0 1 0", "2 0 2 1 1", "0 1 3 1 2", "1 1 4 1 1", "1 0 5 0 1");
    }

    private static void refusedCosts() {
        NeedCode x = new NeedCode();
        C.due("cost without a tree", x.cost(0, 1), NeedCode.BAD);
        C.due("way without a tree", x.way(0, 1), NeedCode.BAD);
        Check.read(x, "a+b");
        int[][] bad = {{-1, 1}, {3, 1}, {0, 0}, {0, -1}, {0, 4}, {Integer.MAX_VALUE, 1}, {0, Integer.MIN_VALUE}};
        for (int[] call : bad) {
            C.due("cost(" + call[0] + ", " + call[1] + ")", x.cost(call[0], call[1]), NeedCode.BAD);
            C.due("way(" + call[0] + ", " + call[1] + ")", x.way(call[0], call[1]), NeedCode.BAD);
        }
        x.machine(6, 1, 1, 1, 1);
        C.due("cost(2, 6)", x.cost(2, 6), 2);
        C.due("cost(2, 7)", x.cost(2, 7), NeedCode.BAD);
    }

    /** Of several ways the first; what pays changes by the prices. */
    private static void otherMachines() {
        NeedCode x = Check.of("a+b");
        x.machine(2, 1, 9, 1, 2);
        // 1: 1 + 1 + 1; 2 the same; 3: 0 + 1 + 2
        priced(x, 2, 2, 3, 1);
        priced(x, 2, 1, 3, 3);
        x.machine(2, 1, 9, 9, 2);
        priced(x, 2, 2, 3, 3);
        // STORE is cheap: r kept 5 + 1, l 5, OPM 1 against 5 + 5 + 9
        NeedCode y = Check.of("(a-b)-(c-d)");
        y.machine(3, 4, 1, 9, 1);
        priced(y, 6, 3, 12, 3);
        C.due("its cells", y.program(3, 1), 1);
    }

    private static void programs() {
        NeedCode x = new NeedCode();
        C.due("no tree: program(9, 9)", x.program(9, 9), NeedCode.STATE);
        C.due("no tree: line(-1, 9)", x.line(-1, 9), NeedCode.STATE);
        C.due("no tree: run(-1)", x.run(-1), NeedCode.STATE);
        C.due("no tree: fewest()", x.fewest(), NeedCode.STATE);
        Check.read(x, "((a-b)-(c-d))-((e-f)-(g-h))");
        // by 1: r kept 18, l 15, 2; by 2: l 11, r by 1 15, 1; by 3: 11 + 11 + 1
        int[][] want = {{14, 3, 35}, {12, 1, 27}, {11, 0, 23}};
        for (int i = 1; i <= 3; i++) {
            for (int what = 0; what < 3; what++) {
                C.due("program(" + i + ", " + what + ")", x.program(i, what), want[i - 1][what]);
            }
            C.due("program(" + i + ", 3)", x.program(i, 3), NeedCode.BAD);
            C.due("program(" + i + ", -1)", x.program(i, -1), NeedCode.BAD);
        }
        C.due("program(0, 0)", x.program(0, 0), NeedCode.BAD);
        C.due("program(4, 0)", x.program(4, 0), NeedCode.BAD);
        // asking by fewer leaves THE PROGRAM by all as it is
        x.program(1, 0);
        C.due("line(10, 2)", x.line(10, 2), 14);
        C.due("line(11, 0)", x.line(11, 0), NeedCode.BAD);
        C.due("line(-1, 0)", x.line(-1, 0), NeedCode.BAD);
        C.due("line(0, 5)", x.line(0, 5), NeedCode.BAD);
        C.due("line(0, -1)", x.line(0, -1), NeedCode.BAD);
        C.due("fewest()", x.fewest(), 3);
    }

    private static void sources() {
        NeedCode x = Check.of("h-34");
        C.lines("h-34", x, "0 0 0 1 7", "2 0 2 0 34");
        NeedCode y = Check.of("34");
        C.lines("34", y, "0 0 0 0 34");
        // cells are numbered as they are used
        NeedCode z = Check.of("((a-b)-(c-d))-((e-f)-(g-h))");
        z.machine(1, 3, 3, 1, 2);
        C.lines("cells", z, "0 0 10 1 6", "2 0 12 1 7", "3 0 12 2 0", "0 0 7 1 4", "2 0 9 1 5", "2 0 13 2 0", "3 0 13 2 1",
                "0 0 3 1 2", "2 0 5 1 3", "3 0 5 2 2", "0 0 0 1 0", "2 0 2 1 1", "2 0 6 2 2", "2 0 14 2 1");
    }

    private static void ran(NeedCode x, int n, int want) {
        C.due("run(" + n + ")", x.run(n), 1);
        C.due("asked() behind " + n, x.asked(), want);
    }

    private static void runs() {
        NeedCode x = Check.of("(a*b)-((c*d)-(e*f))");
        x.machine(2, 3, 3, 1, 2);
        for (int name = 0; name < 6; name++) {
            x.let(name, name + 2);
        }
        // c*d 20, e*f 42, 20-42 is -22, a*b 6, 6+22 is 28
        int[] want = {0, 4, 20, 20, 20, -22, -22, -22, 28};
        for (int n = 0; n < want.length; n++) {
            ran(x, n, want[n]);
        }
        ran(x, 0, 0);
        ran(x, 8, 28);
        C.due("run(9)", x.run(9), NeedCode.BAD);
        C.due("run(-1)", x.run(-1), NeedCode.BAD);
        C.due("asked() as before", x.asked(), 28);
        x.machine(1, 3, 3, 1, 2);
        ran(x, x.program(1, 0), 28);
        x.machine(6, 1, 1, 1, 1);
        ran(x, x.program(6, 0), 28);
    }

    private static void trapsOfRuns() {
        NeedCode x = Check.of("(a/b)-((c/d)-(e/f))");
        x.machine(2, 3, 3, 1, 2);
        for (int name = 0; name < 6; name++) {
            x.let(name, 6);
        }
        ran(x, 10, 1);
        x.let(5, 0);
        x.let(3, 0);
        ran(x, 3, 1);
        // LINE 4 divides c by d
        ran(x, 4, 6);
        C.due("run(5)", x.run(5), NeedCode.TRAP);
        C.due("trapped()", x.trapped(), 5);
        C.due("asked() as before", x.asked(), 6);
        x.let(1, 0);
        C.due("run(10)", x.run(10), NeedCode.TRAP);
        C.due("trapped()", x.trapped(), 2);
        C.due("run(11)", x.run(11), NeedCode.BAD);
        NeedCode y = Check.of("1#a");
        y.let(0, Integer.MAX_VALUE);
        ran(y, 1, 1);
        C.due("run(2)", y.run(2), NeedCode.TRAP);
        C.due("trapped()", y.trapped(), 2);
    }

    private static void fewest(String text, int registers, int want) {
        NeedCode x = Check.of(text);
        x.machine(registers, 3, 3, 1, 2);
        C.due("fewest() of " + text + " of " + registers, x.fewest(), want);
    }

    private static void fewest() {
        fewest("a", 6, 1);
        fewest("a+(b*c)", 3, 1);
        fewest("a-(b*c)", 3, 2);
        fewest("a-(b*c)", 1, NeedCode.NONE);
        fewest("((a-b)-(c-d))-((e-f)-(g-h))", 6, 3);
        fewest("((a-b)-(c-d))-((e-f)-(g-h))", 2, NeedCode.NONE);
        // a STORE can pay with every number of registers
        NeedCode x = Check.of("(a-b)-(c-d)");
        x.machine(6, 4, 1, 9, 1);
        C.due("fewest(), stores pay", x.fewest(), NeedCode.NONE);
    }
}
