/** Promises 19 to 23: keep, back, asked, trapped, count. */
public final class ImagesTest {
    private static final Check C = new Check("ImagesTest");

    public static void main(String[] args) {
        constants();
        refused();
        goingBack();
        imagesStayApart();
        telling();
        counting();
        C.end();
    }

    private static void constants() {
        C.due("BAD", NeedCode.BAD, -1);
        C.due("STATE", NeedCode.STATE, -2);
        C.due("FULL", NeedCode.FULL, -3);
        C.due("TRAP", NeedCode.TRAP, -4);
        C.due("NONE", NeedCode.NONE, -9);
    }

    private static void refused() {
        NeedCode x = new NeedCode();
        C.due("no tree: keep(0)", x.keep(0), NeedCode.STATE);
        C.due("no tree: keep(2)", x.keep(2), NeedCode.BAD);
        C.due("back(0)", x.back(0), NeedCode.STATE);
        C.due("back(1)", x.back(1), NeedCode.STATE);
        C.due("back(2)", x.back(2), NeedCode.BAD);
        C.due("back(-1)", x.back(-1), NeedCode.BAD);
        Check.read(x, "a+b");
        C.due("keep(-1)", x.keep(-1), NeedCode.BAD);
        C.due("keep(2)", x.keep(2), NeedCode.BAD);
        x.let(0, 1);
        C.due("back(1)", x.back(1), NeedCode.STATE);
        C.due("it can be undone still", x.count(8), 1);
        C.due("keep(1)", x.keep(1), 3);
        C.due("keep() forgets nothing", x.count(8), 1);
        C.due("back(0)", x.back(0), NeedCode.STATE);
        C.due("back(1)", x.back(1), 3);
    }

    private static void goingBack() {
        NeedCode x = Check.of("a+(b/c)");
        x.let(0, 3);
        x.let(1, 8);
        x.let(2, 2);
        C.due("keep(0)", x.keep(0), 5);
        x.exchange(4);
        x.machine(1, 9, 8, 7, 6);
        x.let(2, 0);
        x.value(4);
        Check.type(x, "xy");
        C.due("trapped()", x.trapped(), 3 - 1);
        C.due("back(0)", x.back(0), 5);
        C.due("nothing can be undone", x.undo(), NeedCode.STATE);
        C.due("the text stays", x.count(7), 2);
        C.due("trapped() stays", x.trapped(), 2);
        C.due("asked() stays", x.asked(), 2);
        C.due("the tree", x.node(0, 0), 'a');
        C.holds("the machine", Check.row(x.count(1), x.count(2), x.count(3), x.count(4), x.count(5)).equals("3 3 3 1 2"));
        C.due("cost(4, 3)", x.cost(4, 3), 7);
        C.due("way(4, 3)", x.way(4, 3), 4);
        C.due("line(0, 2)", x.line(0, 2), 1);
        x.value(4);
        C.due("the names", x.asked(), 7);
        C.due("back(0) again", x.back(0), 5);
    }

    private static void imagesStayApart() {
        NeedCode x = Check.of("a+b");
        x.let(0, 1);
        x.keep(0);
        x.exchange(2);
        x.let(0, 2);
        x.keep(1);
        x.let(0, 3);
        x.back(0);
        C.due("node(0, 0)", x.node(0, 0), 'a');
        x.value(0);
        C.due("a", x.asked(), 1);
        x.let(0, 9);
        x.back(1);
        C.due("node(0, 0)", x.node(0, 0), 'b');
        x.value(1);
        C.due("a", x.asked(), 2);
        x.back(0);
        x.value(0);
        C.due("a", x.asked(), 1);
        x.let(0, 7);
        x.keep(0);
        x.let(0, 8);
        x.back(0);
        x.value(0);
        C.due("kept anew", x.asked(), 7);
    }

    private static void telling() {
        NeedCode x = Check.of("a/b");
        C.due("asked()", x.asked(), 0);
        C.due("trapped()", x.trapped(), NeedCode.NONE);
        x.let(0, 12);
        x.let(0, 13);
        C.due("asked() of let", x.asked(), 12);
        C.due("run(1)", x.run(1), 1);
        C.due("asked() of run", x.asked(), 13);
        C.due("value(1)", x.value(1), 1);
        C.due("asked() of value", x.asked(), 0);
        x.run(1);
        C.due("value(2)", x.value(2), NeedCode.TRAP);
        C.due("run(2)", x.run(2), NeedCode.TRAP);
        C.due("asked() as before", x.asked(), 13);
        C.due("trapped()", x.trapped(), 2);
        Check.read(x, "1/0");
        C.due("asked() stays", x.asked(), 13);
        Check.read(x, "5-1/(a-a)");
        C.due("value(6)", x.value(6), NeedCode.TRAP);
        C.due("trapped()", x.trapped(), 5);
        C.due("value(0)", x.value(0), 1);
        C.due("trapped() stays", x.trapped(), 5);
    }

    private static void counting() {
        NeedCode x = Check.of("a*b-a*b");
        x.machine(2, 4, 5, 6, 7);
        x.let(1, 1);
        Check.type(x, "abc");
        C.holds("counts", Check.row(x.count(0), x.count(1), x.count(2), x.count(3), x.count(4),
                x.count(5), x.count(6), x.count(7), x.count(8)).equals("7 2 4 5 6 7 1 3 2"));
        C.due("count(9)", x.count(9), NeedCode.BAD);
        C.due("count(-1)", x.count(-1), NeedCode.BAD);
        C.due("count(MIN)", x.count(Integer.MIN_VALUE), NeedCode.BAD);
    }
}
