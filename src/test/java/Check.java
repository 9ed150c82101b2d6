/** Counts the answers of one test that are not the ones that are due. */
final class Check {
    private static final int TOLD_AT_MOST = 50;

    private final String name;
    private String under = "";
    private boolean quiet;
    private int wrong;
    private int asked;

    Check(String name) {
        this.name = name;
    }

    /** What is looked at from here on; told with each wrong answer. */
    void under(String what) {
        under = " (" + what + ")";
    }

    void beQuiet() {
        quiet = true;
    }

    int wrong() {
        return wrong;
    }

    void due(String call, int got, int want) {
        asked++;
        if (got != want) {
            tellWrong(call + " answered " + got + ", due is " + want);
        }
    }

    void holds(String what, boolean so) {
        asked++;
        if (!so) {
            tellWrong("does not hold: " + what);
        }
    }

    private void tellWrong(String what) {
        wrong++;
        if (wrong <= TOLD_AT_MOST && !quiet) {
            System.out.println(name + under + ": " + what);
        }
    }

    /** Ends the Java machine with exit code 1 if an answer was wrong. */
    void end() {
        System.out.println(name + ": " + asked + " answers, " + wrong + " wrong");
        if (wrong != 0) {
            System.exit(1);
        }
    }

    static void type(NeedCode x, String text) {
        for (int at = 0; at < text.length(); at++) {
            x.type(text.charAt(at));
        }
    }

    /** Types a text and reads it: what tree() answers. */
    static int read(NeedCode x, String text) {
        type(x, text);
        return x.tree();
    }

    static NeedCode of(String text) {
        NeedCode x = new NeedCode();
        read(x, text);
        return x;
    }

    /** Answers told as a row, e.g. "1 2 -9". */
    static String row(int... answers) {
        StringBuilder told = new StringBuilder();
        for (int answer : answers) {
            told.append(told.length() == 0 ? "" : " ").append(answer);
        }
        return told.toString();
    }

    void rowIs(String what, String want, int... got) {
        holds(what + " is " + want + ", not " + row(got), row(got).equals(want));
    }

    static String line(NeedCode x, int j) {
        return row(x.line(j, 0), x.line(j, 1), x.line(j, 2), x.line(j, 3), x.line(j, 4));
    }

    void lines(String what, NeedCode x, String... want) {
        for (int j = 0; j < want.length; j++) {
            String got = line(x, j);
            holds(what + ", line " + j + " is " + want[j] + ", not " + got, got.equals(want[j]));
        }
        due(what + ", behind its lines", x.line(want.length, 0), NeedCode.BAD);
    }

    /** The tree from the ROOT down with every operator in parentheses, e.g. "((a-b)*~7)". */
    static String shape(NeedCode x) {
        return shape(x, x.count(0) - 1, 40);
    }

    private static String shape(NeedCode x, int k, int deepest) {
        int letter = x.node(k, 0);
        if (deepest == 0 || letter < 0) {
            return "?";
        }
        if (x.node(k, 2) == NeedCode.NONE) {
            return letter == '0' ? Integer.toString(x.node(k, 1)) : Character.toString((char) letter);
        }
        String left = shape(x, x.node(k, 2), deepest - 1);
        return letter == '~' ? "~" + left : "(" + left + (char) letter + shape(x, x.node(k, 3), deepest - 1) + ")";
    }

    void shapeIs(String want, NeedCode x) {
        String got = shape(x);
        holds("the tree is " + want + ", not " + got, got.equals(want));
    }
}
