import java.io.IOException;

/** "What it is", "Terms" and 1 THE TEXT: a test of its own for each sentence. */
public final class TextSentencesTest {
    static final Check C = new Check("TextSentencesTest");
    private static final int MAX = Integer.MAX_VALUE;
    private static final int MIN = Integer.MIN_VALUE;

    /** 14 and 15 LEAVES: 27 and 29 NODES, and as many letters. */
    private static final String FOURTEEN = "a+b+c+d+e+f+g+h+a+b+c+d+e+f";
    private static final String FIFTEEN = FOURTEEN + "+g";

    public static void main(String[] args) throws IOException {
        Sentences.runAll(TextSentencesTest.class, C);
    }

    /** A text that tells its FAULT; then it is cleared away and the object goes on. */
    private static void fault(String text, int place) {
        NeedCode x = new NeedCode();
        C.due("tree() of '" + text + "'", Check.read(x, text), -10 - place);
        C.due("'" + text + "' stays", x.clear(), text.length());
        C.due("a tree behind '" + text + "'", Check.read(x, "a-b"), 3);
        C.shapeIs("(a-b)", x);
    }

    private static void reads(String text, String shape) {
        NeedCode x = new NeedCode();
        C.holds("'" + text + "' is a tree", Check.read(x, text) > 0);
        C.shapeIs(shape, x);
    }

    // ---- What it is

    @Says("An object is used for at most 512 calls after it has been made;")
    static void lives512Calls() {
        NeedCode x = Check.of("a*b-c");
        for (int call = 7; call < 511; call++) {
            C.due("let", x.let(call % 8, call), 1);
        }
        C.due("the 511th call", x.value(2), 1);
        // 504 and 505 were the last ones of a and b
        C.due("the 512th call", x.asked(), 504 * 505);
    }

    @Says("traps in the order of the text;")
    static void trapsInOrder() {
        // 0 a 1 b 2 / 3 c 4 d 5 # 6 e 7 f 8 / 9 + 10 -
        String text = "(a/b)-((c#d)+(e/f))";
        for (int registers = 1; registers <= 3; registers++) {
            NeedCode x = Check.of(text);
            x.machine(registers, 3, 3, 1, 2);
            x.let(2, MAX);
            x.let(3, 1);
            C.due("value(10), three trap", x.value(10), NeedCode.TRAP);
            C.due("the first one", x.trapped(), 2);
            x.let(1, 1);
            C.due("run of all, two trap", x.run(x.program(registers, 0)), NeedCode.TRAP);
            C.due("the second one", x.trapped(), 5);
            x.let(1, 0);
            C.due("run of all, three trap", x.run(x.program(registers, 0)), NeedCode.TRAP);
            C.due("the first one", x.trapped(), 2);
            x.let(1, 1);
            x.let(2, 0);
            C.due("value(10), one traps", x.value(10), NeedCode.TRAP);
            C.due("the last one", x.trapped(), 8);
            x.let(5, 1);
            C.due("value(10), none", x.value(10), 1);
        }
        // the outer one comes behind what is below it, though its letter stands ahead
        NeedCode y = Check.of("1/(2/3)#4/0");
        C.due("value(8)", y.value(8), NeedCode.TRAP);
        C.due("of 1/(2/3)", y.trapped(), 4);
    }

    // ---- Terms

    @Says("Refused is, the first of these that fits, in this order: BAD -1 (a number is not as told, there is no such "
            + "thing), STATE -2 (as told), FULL -3, TRAP -4 (trapped() tells the NODE). NONE -9.")
    static void orderOfRefusals() {
        C.rowIs("the numbers", "-1 -2 -3 -4 -9", NeedCode.BAD, NeedCode.STATE, NeedCode.FULL, NeedCode.TRAP, NeedCode.NONE);
        NeedCode x = new NeedCode();
        Check.type(x, " ".repeat(60));
        C.due("BAD ahead of FULL", x.type(256), -1);
        C.due("BAD ahead of FULL", x.type(-1), -1);
        C.due("FULL", x.type(97), -3);
        C.due("BAD ahead of STATE: keep", x.keep(2), -1);
        C.due("BAD ahead of STATE: back", x.back(-1), -1);
        C.due("BAD ahead of STATE: exchange", x.exchange(0), -1);
        x.clear();
        Check.read(x, "1/0");
        C.due("STATE: exchange", x.exchange(2), -2);
        C.due("BAD ahead of STATE: exchange", x.exchange(3), -1);
        C.due("BAD ahead of TRAP: value", x.value(3), -1);
        C.due("BAD ahead of TRAP: run", x.run(3), -1);
        C.due("none trapped", x.trapped(), -9);
        C.due("TRAP", x.run(2), -4);
        C.due("trapped() tells the NODE", x.trapped(), 2);
    }

    @Says("Ints that come of expressions are told by asked().")
    static void intsAreAsked() {
        // numbers that a refusal has too
        for (int v : new int[] {-1, -2, -3, -4, -9, -10, 0, MIN, MAX}) {
            NeedCode x = Check.of("a");
            C.due("let", x.let(0, v), 1);
            C.due("asked()", x.asked(), 0);
            C.due("value", x.value(0), 1);
            C.due("asked()", x.asked(), v);
            C.due("let", x.let(0, 5), 1);
            C.due("asked()", x.asked(), v);
            x.undo();
            C.due("run(0)", x.run(0), 1);
            C.due("asked()", x.asked(), 0);
            C.due("run(1)", x.run(1), 1);
            C.due("asked()", x.asked(), v);
        }
    }

    // ---- 1 THE TEXT

    @Says("THE TEXT has at most 60 letters, read as an expression:")
    static void sixtyLetters() {
        NeedCode x = new NeedCode();
        for (int letters = 1; letters <= 59; letters++) {
            C.due("type, " + letters, x.type(' '), letters);
        }
        C.due("the 60th", x.type('a'), 60);
        C.due("the 61st", x.type('+'), NeedCode.FULL);
        C.due("once more", x.type(' '), NeedCode.FULL);
        C.due("count(7)", x.count(7), 60);
        C.due("all 60 are read", x.tree(), 1);
        C.shapeIs("a", x);
        C.due("there is room again", x.type('b'), 1);
        reads("(".repeat(29) + "a" + ")".repeat(29) + " ", "a");
        reads("1" + "+12".repeat(15) + " ".repeat(14), "(".repeat(15) + "1" + "+12)".repeat(15));
    }

    @Says("sum: product { (+ | - | #) product } . product: part { (* | /) part } .")
    static void sumsAndProducts() {
        reads("a", "a");
        for (String operator : new String[] {"+", "-", "#", "*", "/"}) {
            reads("a" + operator + "b", "(a" + operator + "b)");
            fault(operator + "a", 0);
            fault("a" + operator, 2);
            fault("a" + operator + operator + "b", 2);
            fault("(a" + operator + ")", 3);
        }
        for (String sum : new String[] {"+", "-", "#"}) {
            for (String product : new String[] {"*", "/"}) {
                reads("a" + sum + "b" + product + "c", "(a" + sum + "(b" + product + "c))");
                reads("a" + product + "b" + sum + "c", "((a" + product + "b)" + sum + "c)");
                reads("(a" + sum + "b)" + product + "c", "((a" + sum + "b)" + product + "c)");
                reads("a" + product + "(b" + sum + "c)", "(a" + product + "(b" + sum + "c))");
            }
        }
        reads("a*b-c/d#e*f", "(((a*b)-(c/d))#(e*f))");
        fault("a%b", 1);
        fault("a^b", 1);
        fault("a,b", 1);
        fault("a.b", 1);
    }

    @Says("part: a NUMBER (0 .. 99, no 0 ahead of others)")
    static void numbers() {
        for (int number = 0; number <= 99; number++) {
            reads(Integer.toString(number), Integer.toString(number));
        }
        for (int number = 100; number <= 1000; number += 9) {
            fault(Integer.toString(number), 0);
        }
        for (int number = 0; number <= 99; number++) {
            fault("0" + number, 0);
        }
        fault("4294967297", 0);
        fault("9".repeat(60), 0);
        fault("/", 0);
        fault(":", 0);
    }

    @Says("a NAME (a .. h), ( sum ), or ~ part.")
    static void namesAndParts() {
        for (char name = 'a'; name <= 'h'; name++) {
            NeedCode x = Check.of(Character.toString(name));
            C.due("its letter", x.node(0, 0), name);
            C.due("its number", x.node(0, 1), name - 'a');
        }
        fault("`", 0);
        fault("i", 0);
        fault("z", 0);
        fault("A", 0);
        fault("H", 0);
        fault("ab", 1);
        reads("(a)", "a");
        reads("((a))", "a");
        reads("((a)-((b)))", "(a-b)");
        reads("~a", "~a");
        reads("~~~a", "~~~a");
        reads("~a*b", "(~a*b)");
        reads("a*~b*c", "((a*~b)*c)");
        reads("a/~b", "(a/~b)");
        reads("~(a+b)", "~(a+b)");
        reads("~a+b", "(~a+b)");
        fault("()", 1);
        fault("(~)", 2);
        fault("a~", 1);
        fault("a~b", 1);
        fault("~+a", 1);
        fault("-a", 0);
        fault("a(b)", 1);
        fault("(a)(b)", 3);
        fault("(a)b", 3);
        fault("(a)5", 3);
        fault(")a(", 0);
        fault("a)", 1);
        fault("(a))", 3);
        fault("[a]", 0);
    }

    @Says("Blanks (32) stand anywhere but within a NUMBER.")
    static void blanks() {
        reads("  (  ~  ~  a  +  10  )  *  b  -  7  ", "(((~~a+10)*b)-7)");
        reads(" a", "a");
        reads("a ", "a");
        reads("12 ", "12");
        reads(" 12", "12");
        reads("( a)", "a");
        reads("(a )", "a");
        fault("1 2", 2);
        fault("a+1 0", 4);
        fault("0 0", 2);
        fault("9 99", 2);
        for (int letter : new int[] {0, 9, 10, 13, 31, 33, 95, 127, 133, 160, 255}) {
            fault((char) letter + "a", 0);
            fault("a" + (char) letter, 1);
            fault("a+" + (char) letter + "b", 2);
        }
    }

    @Says("Of several operators of a row the first ones are done first.")
    static void rows() {
        String[] sums = {"+", "-", "#"};
        for (String first : sums) {
            for (String second : sums) {
                reads("a" + first + "b" + second + "c", "((a" + first + "b)" + second + "c)");
            }
        }
        String[] products = {"*", "/"};
        for (String first : products) {
            for (String second : products) {
                reads("a" + first + "b" + second + "c", "((a" + first + "b)" + second + "c)");
            }
        }
        reads("a-b-c-d-e", "((((a-b)-c)-d)-e)");
        reads("a-b*c/d-e", "((a-((b*c)/d))-e)");
        NeedCode x = Check.of("9-3-2");
        x.value(4);
        C.due("9-3-2", x.asked(), 4);
    }

    @Says("NODES are numbered as they are done with: a NUMBER, a NAME as it is read, ~ behind its part, another operator "
            + "behind its right part; the ROOT is the last one.")
    static void numbering() {
        NeedCode x = Check.of("a-~b*(17+c)/~~d#(e)");
        // 0 a 1 b 2 ~ 3 17 4 c 5 + 6 * 7 d 8 ~ 9 ~ 10 / 11 - 12 e 13 #
        String letters = "ab~0c+*d~~/-e#";
        int[] lefts = {-9, -9, 1, -9, -9, 3, 2, -9, 7, 8, 6, 0, -9, 11};
        int[] rights = {-9, -9, -9, -9, -9, 4, 5, -9, -9, -9, 9, 10, -9, 12};
        C.due("count(0)", x.count(0), letters.length());
        for (int k = 0; k < letters.length(); k++) {
            C.due("letter of " + k, x.node(k, 0), letters.charAt(k));
            C.due("left of " + k, x.node(k, 2), lefts[k]);
            C.due("right of " + k, x.node(k, 3), rights[k]);
        }
    }

    @Says("There are 31 at most.")
    static void thirtyOneNodes() {
        C.due("30 nodes", Check.read(new NeedCode(), FOURTEEN + "+~g"), 30);
        C.due("31 nodes", Check.read(new NeedCode(), FIFTEEN + "+h"), 31);
        C.due("31 nodes", Check.read(new NeedCode(), "~".repeat(30) + "h"), 31);
        C.holds("32 nodes", Check.read(new NeedCode(), "~".repeat(31) + "h") <= -10);
        C.holds("32 nodes", Check.read(new NeedCode(), FIFTEEN + "+~h") <= -10);
        C.holds("33 nodes", Check.read(new NeedCode(), FIFTEEN + "+h+a") <= -10);
        // what was refused leaves all 31 free
        NeedCode x = new NeedCode();
        Check.read(x, FIFTEEN + "+~h");
        x.clear();
        C.due("31 nodes behind 32", Check.read(x, FIFTEEN + "+h"), 31);
        C.due("31 nodes again", Check.read(x, FIFTEEN + "*h"), 31);
        C.due("no 32nd", x.node(31, 0), NeedCode.BAD);
        // all is told of the 31st too: 16 LEAVES, 15 operators
        NeedCode y = Check.of("a-b+(c-d)+(e-f)+(g-h)+(a-b)+(c-d)+(e-f)#(g-h)");
        C.rowIs("the 31st", "35 0 26 29 2 2 1 31 30", y.node(30, 0), y.node(30, 1), y.node(30, 2), y.node(30, 3), y.node(30, 4),
                y.node(30, 5), y.node(30, 6), y.node(30, 7), y.node(30, 8));
        y.let(0, 100);
        C.due("its value", y.value(30), 1);
        C.due("what it comes to", y.asked(), 200);
        C.due("its cost", y.cost(30, 3), 47);
        C.due("its way", y.way(30, 3), 1);
        C.due("its lines", y.program(3, 0), 23);
        y.machine(6, 3, 3, 1, 2);
        for (int i = 2; i <= 6; i++) {
            C.rowIs("by " + i, "47 1 23 47", y.cost(30, i), y.way(30, i), y.program(i, 0), y.program(i, 2));
        }
        C.due("run by 6", y.run(23), 1);
        C.due("what it comes to", y.asked(), 200);
    }

    @Says("FAULT: the place of the first letter that can't stand there (behind blanks;")
    static void faultPlaces() {
        for (int letter = 0; letter <= 255; letter++) {
            char c = (char) letter;
            boolean startsPart = "(~ ".indexOf(c) >= 0 || c >= 'a' && c <= 'h' || c >= '0' && c <= '9';
            boolean goesOn = "+-#*/) ".indexOf(c) >= 0;
            if (!startsPart) {
                fault("a+" + c + "b", 2);
                fault("(  " + c, 3);
                fault("" + c, 0);
            }
            if (!goesOn && !(c >= '0' && c <= '9')) {
                fault("(1" + c + "b)", 2);
            }
            if (!goesOn) {
                fault("(a  " + c + ")", 4);
                fault("~(a)" + c, 4);
            }
        }
        // the first one of several
        fault("a;;", 1);
        fault("a+;)", 2);
        fault("((a)))(", 5);
        fault("a)+100", 1);
        fault("100+;", 0);
        fault("(a;b", 2);
        // a parenthesis that nothing opened; one that is opened is closed by ) alone
        fault("a)", 1);
        fault("(a))", 3);
        fault("a  )", 3);
        fault("(a]", 2);
        fault("  ;", 2);
        fault("a   ;", 4);
    }

    @Says("of a NUMBER above 99, or with a 0 ahead of others, its first one;")
    static void faultOfNumber() {
        fault("100", 0);
        fault("a+100", 2);
        fault("a+  100", 4);
        fault("(123+b", 1);
        fault("00", 0);
        fault("a*01", 2);
        fault("a*  00100  ", 4);
        fault("~007", 1);
        fault("100;", 0);
        fault("01a", 0);
        // where no NUMBER can stand the same place is told
        fault("a 100", 2);
        fault("(a)01", 3);
        fault("99 100", 3);
    }

    @Says("of what would be the 32nd NODE its letter, its operator's);")
    static void faultOf32nd() {
        fault(FIFTEEN + "+h+a", 32);
        fault(FIFTEEN + "+h + a", 34);
        fault(FIFTEEN + "+h-17", 32);
        // the sum waits for its product: h is the 30th, a the 31st
        fault(FIFTEEN + "+h*(a-b)", 35);
        fault(FIFTEEN + "+h*~a", 32);
        for (String operator : new String[] {"+", "-", "#"}) {
            fault(FIFTEEN + operator + "~h", 29);
            fault(FIFTEEN + "  " + operator + "  ~h  ", 31);
            fault("(" + FIFTEEN + operator + "~h)", 30);
            fault(FIFTEEN + operator + "(~h)", 29);
        }
        for (String operator : new String[] {"*", "/"}) {
            fault(FOURTEEN + "+~~g" + operator + "h", 31);
            fault("(" + FIFTEEN + ")" + operator + "~h", 31);
            // 31 with the product: the sum it stands in is the 32nd
            fault(FOURTEEN + "-~g" + operator + "h", 27);
        }
        fault("~(" + FIFTEEN + "+h)", 0);
        fault(" ~ ~(" + FIFTEEN + "+h)", 3);
        fault("~".repeat(31) + "h", 0);
        fault("~".repeat(35) + "h", 4);
        // it is done with ahead of the letter behind it
        fault(FIFTEEN + "+~h;", 29);
        fault(FIFTEEN + "+~h)", 29);
        fault("(" + FIFTEEN + "+~h", 30);
        fault(FIFTEEN + "+~h+;", 29);
        // it is not done with yet
        fault(FIFTEEN + "+~h*;", 33);
        fault(FIFTEEN + "+(~h", 33);
        fault(FIFTEEN + "+h;", 31);
        fault(FIFTEEN + "+h+", 32);
        fault(FIFTEEN + "+h+;", 32);
        fault(FIFTEEN + "+h+100", 32);
    }

    @Says("the text's length, if it ends too early.")
    static void faultOfEnd() {
        fault("", 0);
        fault(" ", 1);
        fault("a+", 2);
        fault("a*  ", 4);
        fault("(", 1);
        fault("~", 1);
        fault("~ ", 2);
        fault("(a", 2);
        fault("(a  ", 4);
        fault("((a)", 4);
        fault("a*(b-c", 6);
        fault("(1", 2);
        fault("(99  ", 5);
        fault(" ".repeat(60), 60);
        fault("(".repeat(60), 60);
        fault("~".repeat(60), 60);
        fault("a" + " ".repeat(58) + "+", 60);
        NeedCode x = new NeedCode();
        C.due("a new object's text", x.tree(), -10);
    }

    @Says("LEAVES are NUMBERS, NAMES.")
    static void leaves() {
        NeedCode x = Check.of("(5-h)-~0");
        int[] leaves = {1, 1, 0, 1, 0, 0};
        for (int k = 0; k < leaves.length; k++) {
            C.due("left of " + k, x.node(k, 2) == NeedCode.NONE ? 1 : 0, leaves[k]);
            C.due("cost of " + k, x.cost(k, 1) == 3 ? 1 : 0, leaves[k]);
        }
        x.value(3);
        C.due("0 is 0", x.asked(), 0);
    }

    private static void comes(String text, int a, int b, int want) {
        NeedCode x = Check.of(text);
        x.let(0, a);
        x.let(1, b);
        int root = x.count(0) - 1;
        C.due("value of " + text + " by " + a + ", " + b, x.value(root), 1);
        C.due("what it comes to: " + text + " by " + a + ", " + b, x.asked(), want);
        x.let(2, 0);
        C.due("run of " + text, x.run(x.program(3, 0)), 1);
        C.due("what it comes to, line by line: " + text + " by " + a + ", " + b, x.asked(), want);
        C.due("none trapped", x.trapped(), NeedCode.NONE);
    }

    private static void trapsBy(String text, int a, int b, int node) {
        NeedCode x = Check.of(text);
        x.let(0, a);
        x.let(1, b);
        int root = x.count(0) - 1;
        C.due("value of " + text + " by " + a + ", " + b, x.value(root), NeedCode.TRAP);
        C.due("trapped()", x.trapped(), node);
        NeedCode y = Check.of(text);
        y.let(0, a);
        y.let(1, b);
        C.due("run of " + text + " by " + a + ", " + b, y.run(y.program(3, 0)), NeedCode.TRAP);
        C.due("trapped()", y.trapped(), node);
    }

    @Says("+ - * make an int as Java does (cut to 32 bits);")
    static void cutInts() {
        comes("a+b", MAX, 1, MIN);
        comes("a+b", MIN, -1, MAX);
        comes("a+b", MIN, MIN, 0);
        comes("a+b", MAX, MIN, -1);
        comes("a-b", MIN, 1, MAX);
        comes("a-b", MAX, -1, MIN);
        comes("a-b", 0, MIN, MIN);
        comes("a-b", 3, 5, -2);
        comes("a*b", 65536, 65536, 0);
        comes("a*b", 65536, 32768, MIN);
        comes("a*b", 46341, 46341, -2147479015);
        comes("a*b", MIN, -1, MIN);
        comes("a*b", MAX, MAX, 1);
        comes("a*b", -7, 6, -42);
    }

    @Says("~ makes 0 less it, likewise;")
    static void lessThan0() {
        comes("~a", 5, 0, -5);
        comes("~a", -5, 0, 5);
        comes("~a", 0, 0, 0);
        comes("~a", MAX, 0, -MAX);
        comes("~a", MIN, 0, MIN);
        comes("~~a", MIN, 0, MIN);
    }

    @Says("/ the quotient, cut towards 0, TRAPS by 0;")
    static void quotients() {
        comes("a/b", 7, 2, 3);
        comes("a/b", -7, 2, -3);
        comes("a/b", 7, -2, -3);
        comes("a/b", -7, -2, 3);
        comes("a/b", 1, 2, 0);
        comes("a/b", -1, 2, 0);
        comes("a/b", 0, 5, 0);
        comes("a/b", MIN, 1, MIN);
        comes("a/b", MIN, -1, MIN);
        comes("a/b", MIN, MAX, -1);
        trapsBy("a/b", 7, 0, 2);
        trapsBy("a/b", 0, 0, 2);
        trapsBy("a/0", MIN, 0, 2);
        trapsBy("~(a/(b-b))", 1, 4, 4);
    }

    @Says("# the sum, TRAPS if it goes beyond ints.")
    static void guardedSums() {
        comes("a#b", MAX - 1, 1, MAX);
        comes("a#b", MAX, 0, MAX);
        comes("a#b", MIN + 1, -1, MIN);
        comes("a#b", MIN, 0, MIN);
        comes("a#b", MAX, MIN, -1);
        comes("a#b", -3, 5, 2);
        trapsBy("a#b", MAX, 1, 2);
        trapsBy("a#b", 1, MAX, 2);
        trapsBy("a#b", MAX, MAX, 2);
        trapsBy("a#b", MIN, -1, 2);
        trapsBy("a#b", -1, MIN, 2);
        trapsBy("a#b", MIN, MIN, 2);
        // what comes below it has been cut already
        comes("(a+b)#b", MAX, 1, MIN + 1);
    }

    @Says("+ * # are COMMUTING.")
    static void commuting() {
        for (char operator : "+*#".toCharArray()) {
            C.due("exchange of " + operator, Check.of("a" + operator + "b").exchange(2), 5);
            C.due("way 4 of " + operator, Check.of("a" + operator + "(b-c)").way(4, 1), 4);
            C.due("least need of " + operator, Check.of("a" + operator + "(b-c)").node(4, 5), 1);
        }
        for (char operator : "-/".toCharArray()) {
            C.due("exchange of " + operator, Check.of("a" + operator + "b").exchange(2), NeedCode.STATE);
            C.due("way 3 of " + operator, Check.of("a" + operator + "(b-c)").way(4, 1), 3);
            C.due("least need of " + operator, Check.of("a" + operator + "(b-c)").node(4, 5), 2);
        }
        C.due("exchange of ~", Check.of("~a").exchange(1), NeedCode.STATE);
        C.due("exchange of a LEAF", Check.of("a").exchange(0), NeedCode.STATE);
    }

    @Says("MAY TRAP: a NODE, if it is / or #, or a NODE below it is.")
    static void mayTrap() {
        for (String text : new String[] {"a/b", "a#b", "1/1", "0#0", "~(a/b)", "~~~(a#b)", "(a/b)+c", "c*(a#b)", "c-~(a/b)"}) {
            NeedCode x = Check.of(text);
            C.due(text + " may trap", x.node(x.count(0) - 1, 6), 1);
        }
        for (String text : new String[] {"a", "7", "~a", "a+b", "a-b", "a*b", "~(a+b)*~(a-b)"}) {
            NeedCode x = Check.of(text);
            C.due(text + " can't trap", x.node(x.count(0) - 1, 6), 0);
        }
        // 0 a 1 b 2 + 3 c 4 d 5 / 6 - 7 e 8 ~ 9 *: what stands beside it or below it does not count
        NeedCode y = Check.of("((a+b)-c/d)*~e");
        int[] may = {0, 0, 0, 0, 0, 1, 1, 0, 0, 1};
        for (int k = 0; k < may.length; k++) {
            C.due("node(" + k + ", 6)", y.node(k, 6), may[k]);
        }
    }

    @Says("NAMES stand for ints, 0 at first.")
    static void namesAtFirst() {
        for (int name = 0; name < 8; name++) {
            NeedCode x = Check.of(Character.toString((char) ('a' + name)));
            x.let((name + 1) % 8, 77);
            C.due("value", x.value(0), 1);
            C.due("0 at first", x.asked(), 0);
            x.let(name, MIN);
            C.due("let tells 0", x.asked(), 0);
            x.value(0);
            C.due("any int", x.asked(), MIN);
        }
    }

    private static void need(String text, int... needs) {
        NeedCode x = Check.of(text);
        C.due("nodes of " + text, x.count(0), needs.length);
        for (int k = 0; k < needs.length; k++) {
            C.due("need of node " + k + " of " + text, x.node(k, 4), needs[k]);
        }
    }

    @Says("NEED of a NODE: of a LEAF 1, 0 if it is the right operand of an operator; of ~ that of its operand; of another "
            + "operator by L, R, NEEDS of its operands: the greater one, if they are not alike, else 1 more.")
    static void needs() {
        need("a", 1);
        need("7", 1);
        need("~a", 1, 1);
        need("a-b", 1, 0, 1);
        need("a+7", 1, 0, 1);
        need("a-~b", 1, 1, 1, 2);
        need("~a-b", 1, 1, 0, 1);
        need("~(a-b)", 1, 0, 1, 1);
        need("a-(b-c)", 1, 1, 0, 1, 2);
        need("a+(b+c)", 1, 1, 0, 1, 2);
        need("(a-b)-c", 1, 0, 1, 0, 1);
        need("(a-b)-(c-d)", 1, 0, 1, 1, 0, 1, 2);
        need("a-((b-c)-(d-e))", 1, 1, 0, 1, 1, 0, 1, 2, 2);
        need("~((b-c)-(d-e))-a", 1, 0, 1, 1, 0, 1, 2, 2, 0, 2);
        need("((a-b)-(c-d))-((e-f)-(g-h))", 1, 0, 1, 1, 0, 1, 2, 1, 0, 1, 1, 0, 1, 2, 3);
    }

    private static void least(String text, int... needs) {
        NeedCode x = Check.of(text);
        C.due("nodes of " + text, x.count(0), needs.length);
        for (int k = 0; k < needs.length; k++) {
            C.due("least need of node " + k + " of " + text, x.node(k, 5), needs[k]);
        }
    }

    @Says("LEAST NEED: likewise by LEAST NEEDS; of a COMMUTING operator the lesser of that, and of that with its operands "
            + "EXCHANGED (the left one stands right then).")
    static void leastNeeds() {
        least("a", 1);
        least("~a", 1, 1);
        least("a+b", 1, 0, 1);
        least("a-b", 1, 0, 1);
        least("a+(b-c)", 1, 1, 0, 1, 1);
        least("a-(b-c)", 1, 1, 0, 1, 2);
        least("(b-c)+a", 1, 0, 1, 0, 1);
        least("a*~b", 1, 1, 1, 1);
        least("a/~b", 1, 1, 1, 2);
        // by LEAST NEEDS of its operands, though it is not commuting itself
        least("(a+(b-c))-d", 1, 1, 0, 1, 1, 0, 1);
        least("~(a#(b-c))", 1, 1, 0, 1, 1, 1);
        least("(a-b)+(c-d)", 1, 0, 1, 1, 0, 1, 2);
        least("(a+(b-c))*(d+(e-f))", 1, 1, 0, 1, 1, 1, 1, 0, 1, 1, 2);
        least("(a/b)#(c/d)", 1, 0, 1, 1, 0, 1, 2);
        least("(a-(b-c))+d", 1, 1, 0, 1, 2, 0, 2);
        least("a+((b-c)-(d-e))", 1, 1, 0, 1, 1, 0, 1, 2, 2);
        least("a+(b+(c-d))", 1, 1, 1, 0, 1, 1, 1);
        least("((a-b)-(c-d))-(e+(f-g))", 1, 0, 1, 1, 0, 1, 2, 1, 1, 0, 1, 1, 2);
    }
}
