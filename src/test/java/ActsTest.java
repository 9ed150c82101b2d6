/** Promises 13 to 16: exchange, let, machine, undo. */
public final class ActsTest {
    private static final Check C = new Check("ActsTest");

    public static void main(String[] args) {
        exchanging();
        refusedExchanges();
        letting();
        building();
        undoing();
        tenAreKnown();
        C.end();
    }

    private static String told(NeedCode x) {
        StringBuilder letters = new StringBuilder();
        for (int k = 0; k < x.count(0); k++) {
            letters.append((char) x.node(k, 0)).append(x.node(k, 2)).append(',').append(x.node(k, 3)).append(' ');
        }
        return letters.toString();
    }

    private static void sameAs(NeedCode x, String text) {
        NeedCode y = Check.of(text);
        C.holds("as of " + text + ": " + told(x), told(x).equals(told(y)));
        for (int k = 0; k < y.count(0); k++) {
            for (int what = 0; what < 9; what++) {
                C.due("node(" + k + ", " + what + ") as of " + text, x.node(k, what), y.node(k, what));
            }
        }
    }

    private static void exchanging() {
        NeedCode x = Check.of("a+(b*c)-d");
        C.due("line(0, 2)", x.line(0, 2), 1);
        // a+(b*c) goes by WAY 4: 7, and 2
        C.due("cost", x.cost(6, 3), 9);
        C.due("exchange(4)", x.exchange(4), 9);
        sameAs(x, "(b*c)+a-d");
        C.due("way(4, 3)", x.way(4, 3), 3);
        C.due("line(0, 2)", x.line(0, 2), 0);
        C.due("exchange(2)", x.exchange(2), 9);
        sameAs(x, "(c*b)+a-d");
        C.due("exchange(4)", x.exchange(4), 9);
        sameAs(x, "a+(c*b)-d");
        C.due("count(8)", x.count(8), 3);
        NeedCode y = Check.of("(~a-b*7)+(c+(d-(e+f)))");
        C.due("exchange(13)", y.exchange(13), y.cost(13, 3));
        sameAs(y, "(c+(d-(e+f)))+(~a-b*7)");
        y.exchange(6);
        sameAs(y, "((d-(e+f))+c)+(~a-b*7)");
        // one of them may trap: it can be; the value stays
        NeedCode z = Check.of("(a/b)#c");
        z.let(0, 8);
        z.let(1, 2);
        z.let(2, 3);
        C.due("exchange(4)", z.exchange(4), 7);
        sameAs(z, "c#(a/b)");
        z.value(4);
        C.due("asked()", z.asked(), 7);
        // it can change the cost: r leaf by OPM against a LOAD
        NeedCode w = Check.of("(a-b)*c-d*(e-f)");
        C.due("exchange of a leaf", w.exchange(9), w.cost(10, 3));
    }

    private static void refusedExchanges() {
        NeedCode x = new NeedCode();
        C.due("no tree", x.exchange(0), NeedCode.BAD);
        Check.read(x, "(a/b)#(c/d)-~(e+f)");
        int[] want = {-2, -2, -2, -2, -2, -2, -2, -2, -2, 0, -2, -2};
        C.due("count(0)", x.count(0), want.length);
        for (int k = 0; k < want.length; k++) {
            int got = x.exchange(k);
            C.due("exchange(" + k + ")", got > 0 ? 0 : got, want[k]);
        }
        C.due("exchange(12)", x.exchange(12), NeedCode.BAD);
        C.due("exchange(-1)", x.exchange(-1), NeedCode.BAD);
        C.due("one was not refused", x.count(8), 1);
        sameAs(x, "(a/b)#(c/d)-~(f+e)");
    }

    private static void letting() {
        NeedCode x = new NeedCode();
        C.due("let(-1, 0)", x.let(-1, 0), NeedCode.BAD);
        C.due("let(8, 0)", x.let(8, 0), NeedCode.BAD);
        C.due("none was made", x.count(8), 0);
        C.due("let(7, MIN)", x.let(7, Integer.MIN_VALUE), 1);
        C.due("it stood for", x.asked(), 0);
        C.due("let(7, 5)", x.let(7, 5), 1);
        C.due("it stood for", x.asked(), Integer.MIN_VALUE);
        C.due("let(9, 5)", x.let(9, 5), NeedCode.BAD);
        C.due("as before", x.asked(), Integer.MIN_VALUE);
        Check.read(x, "h");
        x.value(0);
        C.due("h", x.asked(), 5);
        x.let(7, 5);
        C.due("the same counts too", x.count(8), 1);
    }

    private static void building() {
        NeedCode x = new NeedCode();
        C.due("no tree", x.machine(6, 9, 9, 9, 9), 0);
        C.due("the least", x.machine(1, 1, 1, 1, 1), 0);
        int[][] bad = {
            {0, 1, 1, 1, 1}, {7, 1, 1, 1, 1}, {1, 0, 1, 1, 1}, {1, 10, 1, 1, 1}, {1, 1, 0, 1, 1},
            {1, 1, 10, 1, 1}, {1, 1, 1, 0, 1}, {1, 1, 1, 10, 1}, {1, 1, 1, 1, 0}, {1, 1, 1, 1, 10}, {-1, 1, 1, 1, 1}
        };
        for (int[] m : bad) {
            C.due("machine " + Check.row(m), x.machine(m[0], m[1], m[2], m[3], m[4]), NeedCode.BAD);
        }
        C.due("count(8)", x.count(8), 2);
        Check.read(x, "(a-b)-(c-d)");
        C.due("machine(2, 4, 5, 6, 7)", x.machine(2, 4, 5, 6, 7), 28);
        C.holds("its numbers", Check.row(x.count(1), x.count(2), x.count(3), x.count(4), x.count(5)).equals("2 4 5 6 7"));
        C.due("cost(6, 2)", x.cost(6, 2), 28);
        C.due("cost(6, 3)", x.cost(6, 3), NeedCode.BAD);
        C.due("program(2, 2)", x.program(2, 2), 28);
        // 16, 11, 7
        C.due("machine(1, 4, 5, 6, 7)", x.machine(1, 4, 5, 6, 7), 34);
        C.due("line(2, 0)", x.line(2, 0), 3);
    }

    private static void undoing() {
        NeedCode x = Check.of("a+(b*c)");
        C.due("undo() of none", x.undo(), NeedCode.STATE);
        x.let(0, 4);
        x.exchange(4);
        x.machine(1, 9, 8, 7, 6);
        x.exchange(2);
        x.let(0, 5);
        x.exchange(99);
        x.let(9, 9);
        x.machine(0, 0, 0, 0, 0);
        C.due("count(8)", x.count(8), 5);
        sameAs(x, "(c*b)+a");
        C.due("undo() of let", x.undo(), 4);
        x.value(4);
        C.due("a", x.asked(), 4);
        C.due("undo() of exchange", x.undo(), 3);
        sameAs(x, "(b*c)+a");
        C.due("undo() of machine", x.undo(), 2);
        C.holds("its numbers", Check.row(x.count(1), x.count(2), x.count(3), x.count(4), x.count(5)).equals("3 3 3 1 2"));
        C.due("cost(4, 3)", x.cost(4, 3), 7);
        C.due("undo() of exchange", x.undo(), 1);
        sameAs(x, "a+(b*c)");
        C.due("undo() of let", x.undo(), 0);
        C.due("asked() stays", x.asked(), 4);
        x.value(0);
        C.due("a", x.asked(), 0);
        C.due("undo() of none", x.undo(), NeedCode.STATE);
    }

    private static void tenAreKnown() {
        NeedCode x = Check.of("a");
        for (int v = 1; v <= 23; v++) {
            x.let(0, v);
            C.due("count(8)", x.count(8), Math.min(v, 10));
        }
        for (int more = 9; more >= 0; more--) {
            C.due("undo()", x.undo(), more);
            x.value(0);
            C.due("a", x.asked(), 13 + more);
        }
        C.due("undo()", x.undo(), NeedCode.STATE);
        // kinds mixed, over the limit
        NeedCode y = Check.of("a+b");
        for (int round = 1; round <= 5; round++) {
            y.machine(round, round, round, round, round);
            y.exchange(2);
            y.let(1, round);
        }
        for (int more = 9; more >= 0; more--) {
            C.due("undo()", y.undo(), more);
        }
        // five were lost: machine 1, 2 with their exchanges, the first let
        C.due("registers", y.count(1), 2);
        C.due("node(0, 0)", y.node(0, 0), 'a');
        y.value(1);
        C.due("b", y.asked(), 1);
    }
}
