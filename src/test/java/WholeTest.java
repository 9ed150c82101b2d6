import java.util.Random;

/**
 * "What it is": what the parts of the document say together, over many trees and machines (the seeds are fixed).
 * Nothing here counts as the class does; what one call tells is held against what another one tells.
 */
public final class WholeTest {
    private static final Check C = new Check("WholeTest");
    private static final int[] INTS = {0, 0, 1, -1, 2, 5, -7, 99, Integer.MAX_VALUE, Integer.MIN_VALUE, 1 << 30};

    private final Random random;
    private final String text;
    private final int[] machine = new int[5];
    private final int[] names = new int[8];

    private WholeTest(int seed, String operators) {
        random = new Random(seed);
        text = textOf(operators);
        C.under(text + ", seed " + seed);
        machine[0] = 1 + random.nextInt(6);
        for (int at = 1; at < machine.length; at++) {
            machine[at] = 1 + random.nextInt(9);
        }
        for (int name = 0; name < names.length; name++) {
            names[name] = INTS[random.nextInt(INTS.length)];
        }
    }

    public static void main(String[] args) {
        String[] kinds = {"+-*", "+*", "+-*/#", "/#", "--*//"};
        for (int seed = 0; seed < 1500; seed++) {
            WholeTest test = new WholeTest(seed, kinds[seed % kinds.length]);
            test.linesCostWhatIsTold();
            test.programsComeToTheValue();
            test.moreRegistersAreNeverDearer();
            test.needsAreMet();
            test.exchangesKeepTheValue();
            test.actsAreUndone();
            test.cellsWhereCheaper();
            test.imagesComeBack();
        }
        C.end();
    }

    /** Some come out with more letters or NODES than there may be. */
    private String textOf(String operators) {
        String made = "a";
        for (int tries = 0; tries < 20; tries++) {
            made = expression(1 + random.nextInt(14), operators);
            if (made.length() <= 60 && Check.of(made).count(0) > 0) {
                return made;
            }
        }
        return "a";
    }

    private String expression(int leaves, String operators) {
        if (random.nextInt(10) == 0) {
            return "~" + (leaves == 1 ? leaf() : "(" + expression(leaves, operators) + ")");
        }
        if (leaves == 1) {
            return leaf();
        }
        int left = 1 + random.nextInt(leaves - 1);
        char operator = operators.charAt(random.nextInt(operators.length()));
        return inBraces(expression(left, operators)) + operator + inBraces(expression(leaves - left, operators));
    }

    private String leaf() {
        return random.nextInt(4) == 0 ? Integer.toString(random.nextInt(100)) : Character.toString('a' + random.nextInt(8));
    }

    private static String inBraces(String part) {
        return part.length() > 2 ? "(" + part + ")" : part;
    }

    private NeedCode made() {
        NeedCode x = Check.of(text);
        x.machine(machine[0], machine[1], machine[2], machine[3], machine[4]);
        for (int name = 0; name < names.length; name++) {
            x.let(name, names[name]);
        }
        return x;
    }

    /** What a call that tells by asked() and trapped() told. */
    private static String told(NeedCode x, int answer) {
        return answer == 1 ? "comes to " + x.asked() : "answers " + answer + " at " + x.trapped();
    }

    private static String valueOfRoot(NeedCode x) {
        return told(x, x.value(x.count(0) - 1));
    }

    /** "programs of loads, operations, stores": its LINES cost what the ROOT does, by registers that there are. */
    private void linesCostWhatIsTold() {
        NeedCode x = made();
        int[] prices = {machine[1], machine[3], machine[4], machine[2]};
        int lines = x.program(machine[0], 0);
        int sum = 0;
        int stores = 0;
        for (int j = 0; j < lines; j++) {
            int kind = x.line(j, 0);
            C.holds("line " + j + " is one of four", kind >= 0 && kind < prices.length);
            sum += prices[kind];
            stores += kind == 3 ? 1 : 0;
            C.holds("its register is there", x.line(j, 1) >= 0 && x.line(j, 1) < machine[0]);
            C.holds("a store comes ahead of what takes from its cell", kind == 1 || x.line(j, 3) != 2 || x.line(j, 4) < stores);
        }
        C.due("what the lines cost", sum, x.program(machine[0], 2));
        C.due("cost of the root", x.cost(x.count(0) - 1, machine[0]), sum);
        C.due("its cells", x.program(machine[0], 1), stores);
        C.due("the node that the last line does", x.line(lines - 1, 2), x.count(0) - 1);
    }

    /** "gone through line by line; traps in the order of the text". */
    private void programsComeToTheValue() {
        NeedCode x = made();
        String want = valueOfRoot(x);
        for (int registers = 1; registers <= 6; registers++) {
            x.machine(registers, machine[1], machine[2], machine[3], machine[4]);
            String got = told(x, x.run(x.program(registers, 0)));
            C.holds("by " + registers + " the program " + want + ", not " + got, got.equals(want));
        }
    }

    /** "costs by how many registers there are". */
    private void moreRegistersAreNeverDearer() {
        NeedCode x = made();
        for (int k = 0; k < x.count(0); k++) {
            for (int i = 2; i <= machine[0]; i++) {
                C.holds("cost of " + k + " by " + i, x.cost(k, i) <= x.cost(k, i - 1));
            }
        }
    }

    /** "how many registers each part needs": as many do without a STORE, where none pays and nothing traps; one less do not. */
    private void needsAreMet() {
        NeedCode x = made();
        x.machine(6, 3, 9, 1, 2);
        int root = x.count(0) - 1;
        if (x.node(root, 6) == 0) {
            C.due("fewest()", x.fewest(), x.node(root, 5));
        }
        for (int k = 0; k <= root; k++) {
            C.holds("the least need of " + k, x.node(k, 5) <= x.node(k, 4));
        }
    }

    /** "operands that are exchanged": twice is as if never. */
    private void exchangesKeepTheValue() {
        int nodes = made().count(0);
        for (int k = 0; k < nodes; k++) {
            NeedCode x = made();
            String value = valueOfRoot(x);
            String shape = Check.shape(x);
            int cost = x.cost(nodes - 1, machine[0]);
            if (x.exchange(k) != NeedCode.STATE) {
                String now = valueOfRoot(x);
                boolean traps = value.startsWith("answers");
                C.holds("exchange(" + k + "): " + value + ", not " + now, traps ? now.startsWith("answers -4") : now.equals(value));
                C.due("the cost behind exchange(" + k + ")", x.cost(nodes - 1, machine[0]), cost);
                C.due("exchange(" + k + ") again", x.exchange(k), cost);
                C.holds("the tree behind two", Check.shape(x).equals(shape));
                C.holds("the value behind two", valueOfRoot(x).equals(value));
            }
        }
    }

    /** "undone". */
    private void actsAreUndone() {
        NeedCode x = Check.of(text);
        String before = allOf(x);
        int acts = 0;
        while (acts < 10) {
            int lot = random.nextInt(3);
            int answer = lot == 0 ? x.exchange(random.nextInt(x.count(0)))
                    : lot == 1 ? x.let(random.nextInt(8), random.nextInt())
                    : x.machine(1 + random.nextInt(6), 1 + random.nextInt(9), 1 + random.nextInt(9), 1, 2);
            acts += answer < 0 ? 0 : 1;
            C.due("how many may be undone", x.count(8), acts);
        }
        while (acts > 0) {
            acts--;
            C.due("undo()", x.undo(), acts);
        }
        C.holds("all is as before", allOf(x).equals(before));
    }

    private static String allOf(NeedCode x) {
        StringBuilder all = new StringBuilder(Check.shape(x));
        for (int what = 0; what <= 8; what++) {
            all.append(' ').append(x.count(what));
        }
        for (int name = 0; name < 8; name++) {
            x.let(name, 0);
            all.append(' ').append(x.asked());
            x.undo();
        }
        int root = x.count(0) - 1;
        return all.append(' ').append(x.cost(root, x.count(1))).append(' ').append(x.cheapest(0)).toString();
    }

    /** "parts that are alike, kept in cells where that is cheaper". */
    private void cellsWhereCheaper() {
        NeedCode x = made();
        int cost = x.cost(x.count(0) - 1, machine[0]);
        int set = x.cheapest(1);
        C.holds("cheapest(0) is not above the cost", x.cheapest(0) <= cost);
        C.holds("a set just where it is below", set == 0 == (x.cheapest(0) == cost));
        C.holds("a set of what is shared", set >= 0 && set < 1 << x.count(6));
        for (int c = 0; c < x.count(6); c++) {
            int first = x.shared(c, 0);
            C.due("the lowest alike", x.node(first, 8), first);
            C.due("it traps", x.node(first, 6), 0);
            int often = 0;
            for (int k = 0; k < x.count(0); k++) {
                often += x.node(k, 8) == first ? 1 : 0;
            }
            C.due("how often", x.shared(c, 1), often);
        }
    }

    /** "images". */
    private void imagesComeBack() {
        NeedCode x = made();
        x.keep(1);
        String value = valueOfRoot(x);
        String shape = Check.shape(x);
        for (int k = x.count(0) - 1; k >= 0; k--) {
            x.exchange(k);
        }
        x.machine(1 + random.nextInt(6), 1, 1, 1, 1);
        x.let(random.nextInt(8), random.nextInt());
        C.due("back(1)", x.back(1), x.count(0));
        C.due("what may be undone", x.count(8), 0);
        C.holds("the value is as before", valueOfRoot(x).equals(value));
        C.holds("the tree is as before", Check.shape(x).equals(shape));
        for (int what = 1; what <= 5; what++) {
            C.due("count(" + what + ")", x.count(what), machine[what - 1]);
        }
    }
}
