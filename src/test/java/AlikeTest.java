/** Promises 17 and 18: shared, cheapest. */
public final class AlikeTest {
    private static final Check C = new Check("AlikeTest");

    public static void main(String[] args) {
        sharing();
        fiveAtMost();
        whatIsNotShared();
        weighing();
        nested();
        behindActs();
        C.end();
    }

    private static void shared(NeedCode x, String... want) {
        C.due("count(6)", x.count(6), want.length);
        for (int c = 0; c < want.length; c++) {
            String got = Check.row(x.shared(c, 0), x.shared(c, 1));
            C.holds("shared " + c + " is " + want[c] + ", not " + got, got.equals(want[c]));
        }
        C.due("one more", x.shared(want.length, 0), NeedCode.BAD);
        C.due("shared(-1, 0)", x.shared(-1, 0), NeedCode.BAD);
        C.due("shared(0, 2)", x.shared(0, 2), NeedCode.BAD);
        C.due("shared(0, -1)", x.shared(0, -1), NeedCode.BAD);
    }

    private static void sharing() {
        shared(new NeedCode());
        shared(Check.of("a"));
        shared(Check.of("a*b-a*b"), "2 2");
        shared(Check.of("~a-~a*~a"), "1 3");
        // 0 a 1 b 2 * 3 c 4 + 5 a 6 b 7 * 8 c 9 + 10 * 11 a 12 b 13 * 14 -
        shared(Check.of("(a*b+c)*(a*b+c)-a*b"), "2 3", "4 2");
    }

    private static void fiveAtMost() {
        NeedCode y = Check.of("~a+~b+~c+~d+~e-~e-~d-~c-~b-~a");
        C.due("29 nodes", y.count(0), 29);
        shared(y, "1 2", "3 2", "6 2", "9 2", "12 2");
        NeedCode z = Check.of("(~~~~~~a)+(~~~~~~a)");
        C.due("15 nodes", z.count(0), 15);
        shared(z, "1 2", "2 2", "3 2", "4 2", "5 2");
        // only the first five may be taken: the fifth ~ is kept, not the sixth
        z.machine(3, 1, 1, 9, 1);
        // ~~~~~a kept: 1 + 45 + 1; then l 1 + 9, r 1 + 9, kept by 1, OPM 1
        C.due("cheapest(0)", z.cheapest(0), 69);
        C.due("cheapest(1)", z.cheapest(1), 16);
    }

    private static void whatIsNotShared() {
        shared(Check.of("a/b-a/b"));
        shared(Check.of("(a#b)*(a#b)"));
        shared(Check.of("~(a/b)*~(a/b)"));
        shared(Check.of("(a+b)*(b+a)"));
        shared(Check.of("a+a+a"));
        shared(Check.of("1*2-1*3"));
        shared(Check.of("(a*b)/(a*b)"), "2 2");
    }

    private static void weighed(NeedCode x, int sum, int set) {
        C.due("cheapest(0)", x.cheapest(0), sum);
        C.due("cheapest(1)", x.cheapest(1), set);
    }

    private static void weighing() {
        NeedCode x = new NeedCode();
        C.due("no tree: cheapest(2)", x.cheapest(2), NeedCode.STATE);
        C.due("no tree: cheapest(0)", x.cheapest(0), NeedCode.STATE);
        Check.read(x, "a-b");
        C.due("cheapest(2)", x.cheapest(2), NeedCode.BAD);
        C.due("cheapest(-1)", x.cheapest(-1), NeedCode.BAD);
        weighed(x, 5, 0);
        // not kept 5 + 5 + 1, kept 5 + 3 and 3 + 2
        Check.read(x, "a*b-a*b");
        weighed(x, 11, 0);
        // not kept 17, kept 8 and 3 + 2 + 2
        Check.read(x, "a*b-a*b-a*b");
        weighed(x, 15, 1);
        // not kept 11, kept 5 + 1 and 5: of several the least number
        Check.read(x, "a*b-a*b");
        x.machine(3, 3, 1, 1, 2);
        weighed(x, 11, 0);
        x.machine(3, 3, 1, 2, 2);
        weighed(x, 11, 1);
    }

    private static void nested() {
        NeedCode x = Check.of("(a*b+c)*(a*b+c)+(a*b-~(a*b+c))");
        shared(x, "2 4", "4 3");
        weighed(x, 26, 2);
        // a*b+c is kept with a*b counting as a LEAF in it
        NeedCode y = Check.of("(a*b+c)*(a*b+c)*(a*b)*(a*b)");
        // none 7+7+1, 5+1, 5+1 is 27; {a*b}: 8 + 5+5+1+2+2 is 23; {a*b+c}: 10 + 3+2 + 6 + 6 is 27;
        // both: 8 + (3+2+3) + 3+2+2+2 is 25
        weighed(y, 23, 1);
        NeedCode z = Check.of("(~~b+c)*(~~b+c)*~~b*~~b*(~~b+c)");
        shared(z, "1 5", "2 5", "4 3");
        z.machine(2, 1, 1, 9, 1);
        // ~~b kept 1+18+1, the sum kept 1+1+1, then 1 and four OPM
        weighed(z, 28, 6);
    }

    private static void behindActs() {
        NeedCode x = Check.of("(a+b)*(b+a)*(a+b)");
        shared(x, "2 2");
        weighed(x, 17, 0);
        x.exchange(5);
        shared(x, "2 3");
        weighed(x, 15, 1);
        x.machine(3, 3, 9, 1, 2);
        weighed(x, 17, 0);
        x.undo();
        weighed(x, 15, 1);
        x.undo();
        shared(x, "2 2");
        weighed(x, 17, 0);
    }
}
