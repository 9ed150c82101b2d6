/** Counts the answers of one test that are not the ones that are due. */
final class Check {
    private final String name;
    private int wrong;
    private int asked;

    Check(String name) {
        this.name = name;
    }

    void due(String call, int got, int want) {
        asked++;
        if (got != want) {
            wrong++;
            if (wrong <= 50) {
                System.out.println(name + ": " + call + " answered " + got + ", due is " + want);
            }
        }
    }

    void holds(String what, boolean so) {
        asked++;
        if (!so) {
            wrong++;
            System.out.println(name + ": does not hold: " + what);
        }
    }

    /** Ends the Java machine with exit code 1 if an answer was wrong. */
    void end() {
        System.out.println(name + ": " + asked + " answers, " + wrong + " wrong");
        if (wrong != 0) {
            System.exit(1);
        }
    }

    static void type(NeedCode x, String text) {
        for (int at = 0; at < text.length(); at++) {
            x.type(text.charAt(at));
        }
    }

    /** Types a text and reads it: what tree() answers. */
    static int read(NeedCode x, String text) {
        type(x, text);
        return x.tree();
    }

    static NeedCode of(String text) {
        NeedCode x = new NeedCode();
        read(x, text);
        return x;
    }

    /** Answers told as a row, e.g. "1 2 -9". */
    static String row(int... answers) {
        StringBuilder told = new StringBuilder();
        for (int answer : answers) {
            told.append(told.length() == 0 ? "" : " ").append(answer);
        }
        return told.toString();
    }

    static String line(NeedCode x, int j) {
        return row(x.line(j, 0), x.line(j, 1), x.line(j, 2), x.line(j, 3), x.line(j, 4));
    }

    void lines(String what, NeedCode x, String... want) {
        for (int j = 0; j < want.length; j++) {
            String got = line(x, j);
            holds(what + ", line " + j + " is " + want[j] + ", not " + got, got.equals(want[j]));
        }
        due(what + ", behind its lines", x.line(want.length, 0), NeedCode.BAD);
    }
}
