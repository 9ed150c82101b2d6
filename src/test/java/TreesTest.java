/** Promises 1 to 6: a new object, type, clear, tree, node, value. */
public final class TreesTest {
    private static final Check C = new Check("TreesTest");

    public static void main(String[] args) {
        newObject();
        typing();
        clearing();
        reading();
        faults();
        faultsAndThen();
        nodeLimit();
        readAnew();
        nodes();
        needs();
        alike();
        values();
        traps();
        C.end();
    }

    private static void newObject() {
        NeedCode x = new NeedCode();
        int[] want = {0, 3, 3, 3, 1, 2, 0, 0, 0};
        for (int what = 0; what < want.length; what++) {
            C.due("new: count(" + what + ")", x.count(what), want[what]);
        }
        C.due("new: asked()", x.asked(), 0);
        C.due("new: trapped()", x.trapped(), NeedCode.NONE);
        C.due("new: node(0, 0)", x.node(0, 0), NeedCode.BAD);
        C.due("new: value(0)", x.value(0), NeedCode.BAD);
        C.due("new: run(0)", x.run(0), NeedCode.STATE);
        C.due("new: undo()", x.undo(), NeedCode.STATE);
        C.due("new: tree()", x.tree(), -10);
        for (int name = 0; name < 8; name++) {
            x.let(name, 5);
            C.due("new: a name stands for", x.asked(), 0);
        }
    }

    private static void typing() {
        NeedCode x = new NeedCode();
        C.due("type(-1)", x.type(-1), NeedCode.BAD);
        C.due("type(256)", x.type(256), NeedCode.BAD);
        C.due("type(MIN)", x.type(Integer.MIN_VALUE), NeedCode.BAD);
        C.due("type(0)", x.type(0), 1);
        C.due("type(255)", x.type(255), 2);
        for (int letters = 3; letters <= 60; letters++) {
            C.due("type, " + letters, x.type(97), letters);
        }
        C.due("type, the 61st", x.type(97), NeedCode.FULL);
        C.due("type, the 61st that is bad too", x.type(256), NeedCode.BAD);
        C.due("count(7)", x.count(7), 60);
    }

    private static void clearing() {
        NeedCode x = new NeedCode();
        C.due("clear() of nothing", x.clear(), 0);
        Check.type(x, "a+b");
        C.due("clear()", x.clear(), 3);
        C.due("clear() again", x.clear(), 0);
        C.due("count(7)", x.count(7), 0);
        C.due("read behind it", Check.read(x, "7"), 1);
        C.due("the tree is that", x.node(0, 1), 7);
        Check.type(x, "a+b");
        x.clear();
        C.due("the tree stays", x.count(0), 1);
    }

    private static void reading() {
        NeedCode x = new NeedCode();
        C.due("a", Check.read(x, "a"), 1);
        C.due("0", Check.read(x, "0"), 1);
        C.due("99", Check.read(x, "99"), 1);
        C.due("h", Check.read(x, "h"), 1);
        C.due("blanks", Check.read(x, "  ( a +  ~ 10 )  * b "), 6);
        C.due("the text is empty then", x.count(7), 0);
        C.due("nothing is left to read", x.tree(), -10);
        C.due("nested", Check.read(x, "((((((((((((((((((((((((((((a+b))))))))))))))))))))))))))))"), 3);
        C.due("many ~", Check.read(x, "~~~~~~~~~~~~~~~~~~~~~~~~~~~~~~h"), 31);
        // the first ones of a row are done first, products ahead of sums
        Check.read(x, "a-b-c*d/e#f");
        C.holds("a-b-c*d/e#f", told(x).equals("a b - c d * e / - f #"));
        Check.read(x, "a/b/c");
        C.holds("a/b/c", told(x).equals("a b / c /"));
        Check.read(x, "~a*b");
        C.holds("~a*b", told(x).equals("a ~ b *"));
        Check.read(x, "a*~~b+c");
        C.holds("a*~~b+c", told(x).equals("a b ~ ~ * c +"));
        Check.read(x, "~(a+b)*(c-d)");
        C.holds("~(a+b)*(c-d)", told(x).equals("a b + ~ c d - *"));
        Check.read(x, "a-(b-c)");
        C.holds("a-(b-c)", told(x).equals("a b c - -"));
    }

    /** Letters of the NODES in order; as each operator tells its operands too, nodes() looks at those. */
    private static String told(NeedCode x) {
        StringBuilder letters = new StringBuilder();
        for (int k = 0; k < x.count(0); k++) {
            letters.append(k == 0 ? "" : " ").append((char) x.node(k, 0));
        }
        return letters.toString();
    }

    private static void fault(String text, int place) {
        NeedCode x = Check.of("a+b");
        x.let(0, 4);
        x.keep(1);
        Check.type(x, text);
        C.due("tree() of '" + text + "'", x.tree(), -10 - place);
        C.due("'" + text + "' stays", x.count(7), text.length());
        C.due("the tree stays", x.count(0), 3);
        C.due("acts stay", x.count(8), 1);
        C.due("images stay", x.back(1), 3);
    }

    private static void faults() {
        fault("", 0);
        fault("   ", 3);
        fault("(", 1);
        fault(")", 0);
        fault("()", 1);
        fault("a+", 2);
        fault("a+  ", 4);
        fault("(a", 2);
        fault("(a  ", 4);
        fault("~", 1);
        fault("a b", 2);
        fault("a  b", 3);
        fault("ab", 1);
        fault("a(b)", 1);
        fault("a~b", 1);
        fault("100", 0);
        fault("a+100", 2);
        fault("a+  01", 4);
        fault("00", 0);
        fault("1 2", 2);
        fault("99 9", 3);
        fault("5a", 1);
        fault("i", 0);
        fault("A", 0);
        fault("`", 0);
        fault("a)", 1);
        fault("(a))", 3);
        fault("(a+b;", 4);
        fault("a;", 1);
        fault("+a", 0);
        fault("a+*b", 2);
        fault("a*/b", 2);
        fault("a\tb", 1);
        fault("\u00e9", 0);
        fault("a+(b*(c-d)", 10);
        fault("123456789012345678901234567890", 0);
        fault("((((((((((((((((((((((((((((((((((((((((((((((((((((((((((((", 60);
        fault("~~~~~~~~~~~~~~~~~~~~~~~~~~~~~~~~~~~~~~~~~~~~~~~~~~~~~~~~~~~~", 60);
    }

    private static void faultsAndThen() {
        NeedCode x = new NeedCode();
        for (String text : new String[] {"((a+b", "a*(b+", "~~~;", "a-b*c/", ")"}) {
            C.holds(text + " is refused", Check.read(x, text) <= -10);
            x.clear();
        }
        C.due("then a tree", Check.read(x, "a-b*c"), 5);
        C.holds("a-b*c", told(x).equals("a b c * -"));
    }

    private static void nodeLimit() {
        String fifteen = "a+b+c+d+e+f+g+h+a+b+c+d+e+f+g";
        C.due("31 nodes", Check.read(new NeedCode(), fifteen + "+h"), 31);
        fault(fifteen + "+~h", 29);
        // the sum of 31 stands ahead: a leaf is the 32nd itself
        fault(fifteen + "+h+a", 32);
        fault(fifteen + "+h + a", 34);
        fault(fifteen + "+h+17", 32);
        // of ~ its own letter
        fault("~" + fifteen + "+~h", 31);
        fault("~(" + fifteen + "+h)", 0);
        fault(fifteen + "+ ~ ~ ~h", 33);
        // what comes too late is told ahead of what stands wrong behind it
        fault(fifteen + "+~h;", 29);
        fault("(" + fifteen + "+~h", 30);
        // the operator is not done with as its right part is not
        fault(fifteen + "+(~h", 33);
        fault(fifteen + "+~h*;", 33);
        fault("~~~~~~~~~~~~~~~~~~~~~~~~~~~~~~~h", 0);
    }

    private static void readAnew() {
        NeedCode x = Check.of("a/b");
        x.let(0, 6);
        x.let(1, 0);
        x.value(2);
        x.machine(2, 4, 5, 6, 7);
        x.keep(0);
        x.keep(1);
        C.due("count(8)", x.count(8), 3);
        C.due("read anew", Check.read(x, "a"), 1);
        C.due("nothing can be undone", x.undo(), NeedCode.STATE);
        C.due("image 0 is gone", x.back(0), NeedCode.STATE);
        C.due("image 1 is gone", x.back(1), NeedCode.STATE);
        C.due("registers stay", x.count(1), 2);
        C.due("opm stays", x.count(5), 7);
        C.due("trapped() stays", x.trapped(), 2);
        x.value(0);
        C.due("names stay", x.asked(), 6);
    }

    private static void node(NeedCode x, int k, int... want) {
        for (int what = 0; what < want.length; what++) {
            C.due("node(" + k + ", " + what + ")", x.node(k, what), want[what]);
        }
    }

    private static void nodes() {
        NeedCode x = Check.of("~c*(17+a)/c");
        // letter, number, left, right, need, least need, may trap, nodes, alike
        node(x, 0, 'c', 2, -9, -9, 1, 1, 0, 1, 0);
        node(x, 1, '~', 0, 0, -9, 1, 1, 0, 2, 1);
        node(x, 2, '0', 17, -9, -9, 1, 1, 0, 1, 2);
        node(x, 3, 'a', 0, -9, -9, 0, 0, 0, 1, 3);
        node(x, 4, '+', 0, 2, 3, 1, 1, 0, 3, 4);
        node(x, 5, '*', 0, 1, 4, 2, 2, 0, 6, 5);
        node(x, 6, 'c', 2, -9, -9, 0, 0, 0, 1, 0);
        node(x, 7, '/', 0, 5, 6, 2, 2, 1, 8, 7);
        for (int what = -2; what < 12; what++) {
            C.due("node(8, " + what + ")", x.node(8, what), NeedCode.BAD);
            C.due("node(-1, " + what + ")", x.node(-1, what), NeedCode.BAD);
        }
        C.due("node(0, -1)", x.node(0, -1), NeedCode.BAD);
        C.due("node(0, 9)", x.node(0, 9), NeedCode.BAD);
        C.due("node(MAX, 0)", x.node(Integer.MAX_VALUE, 0), NeedCode.BAD);
        NeedCode y = Check.of("(a#b)-~(c*d)");
        node(y, 2, '#', 0, 0, 1, 1, 1, 1, 3, 2);
        node(y, 5, '*', 0, 3, 4, 1, 1, 0, 3, 5);
        node(y, 6, '~', 0, 5, -9, 1, 1, 0, 4, 6);
        node(y, 7, '-', 0, 2, 6, 2, 2, 1, 8, 7);
    }

    private static void need(String text, int need, int least) {
        NeedCode x = Check.of(text);
        int root = x.count(0) - 1;
        C.due("need of " + text, x.node(root, 4), need);
        C.due("least need of " + text, x.node(root, 5), least);
    }

    private static void needs() {
        need("a", 1, 1);
        need("~a", 1, 1);
        need("a-b", 1, 1);
        need("a-~b", 2, 2);
        need("a+~b", 2, 1);
        need("a+(b+c)", 2, 1);
        need("a-(b-c)", 2, 2);
        need("(b-c)-a", 1, 1);
        need("a*(b-(c#d))", 2, 2);
        need("a*(b+(c#d))", 2, 1);
        need("(a-b)-(c-d)", 2, 2);
        need("(a+b)+(c+d)", 2, 2);
        need("((a-b)-(c-d))*((a-b)-(c-d))", 3, 3);
        need("((a-b)-(c-d))/(a-b)", 2, 2);
        need("(a/b)#(c/d)", 2, 2);
        need("(a+(b+c))+(a+(b+c))", 3, 2);
    }

    private static void alike() {
        NeedCode x = Check.of("(a+b)*(a+b)-(b+a)*~(a+b)+1*10-1");
        // 0 a 1 b 2 + 3 a 4 b 5 + 6 * 7 b 8 a 9 + 10 a 11 b 12 + 13 ~ 14 * 15 - 16 1 17 10 18 * 19 + 20 1 21 -
        int[] want = {0, 1, 2, 0, 1, 2, 6, 1, 0, 9, 0, 1, 2, 13, 14, 15, 16, 17, 18, 19, 16, 21};
        C.due("count(0)", x.count(0), want.length);
        for (int k = 0; k < want.length; k++) {
            C.due("node(" + k + ", 8)", x.node(k, 8), want[k]);
        }
    }

    private static void value(String text, int a, int b, int want) {
        NeedCode x = Check.of(text);
        x.let(0, a);
        x.let(1, b);
        C.due("value of " + text, x.value(x.count(0) - 1), 1);
        C.due("asked() of " + text, x.asked(), want);
    }

    private static void values() {
        int max = Integer.MAX_VALUE;
        int min = Integer.MIN_VALUE;
        value("a", 7, 0, 7);
        value("42", 7, 0, 42);
        value("a+b", max, 1, min);
        value("a-b", min, 1, max);
        value("a*b", 65536, 65537, 65536);
        value("~a", min, 0, min);
        value("~a", 5, 0, -5);
        value("a/b", 7, 2, 3);
        value("a/b", -7, 2, -3);
        value("a/b", 7, -2, -3);
        value("a/b", min, -1, min);
        value("a#b", max, min, -1);
        value("a#b", max - 1, 1, max);
        value("a#b", min + 1, -1, min);
        value("9-3-2", 0, 0, 4);
        value("99/5/4", 0, 0, 4);
        value("2+3*4", 0, 0, 14);
        value("c", 1, 2, 0);
        NeedCode x = Check.of("(a+1)*(a-b)");
        x.let(0, 5);
        x.let(1, 3);
        C.due("value(2)", x.value(2), 1);
        C.due("asked()", x.asked(), 6);
        C.due("value(5)", x.value(5), 1);
        C.due("asked()", x.asked(), 2);
        C.due("value(7)", x.value(7), NeedCode.BAD);
        C.due("value(-1)", x.value(-1), NeedCode.BAD);
        C.due("asked() as before", x.asked(), 2);
    }

    private static void traps() {
        NeedCode x = Check.of("(a/b)-(c#d)");
        x.let(2, Integer.MAX_VALUE);
        x.let(3, 1);
        x.let(0, 9);
        int told = x.asked();
        C.due("value(6)", x.value(6), NeedCode.TRAP);
        C.due("trapped()", x.trapped(), 2);
        C.due("value(5)", x.value(5), NeedCode.TRAP);
        C.due("trapped()", x.trapped(), 5);
        C.due("asked() as before", x.asked(), told);
        C.due("value(0)", x.value(0), 1);
        C.due("trapped() stays", x.trapped(), 5);
        x.let(1, 2);
        C.due("value(6)", x.value(6), NeedCode.TRAP);
        C.due("trapped()", x.trapped(), 5);
        x.let(2, Integer.MIN_VALUE);
        x.let(3, -1);
        C.due("below ints", x.value(5), NeedCode.TRAP);
        NeedCode y = Check.of("1/(2/3)");
        C.due("a trap of a trap's", y.value(4), NeedCode.TRAP);
        C.due("trapped()", y.trapped(), 4);
    }
}
