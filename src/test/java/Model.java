import java.util.ArrayDeque;
import java.util.ArrayList;
import java.util.Deque;
import java.util.HashMap;
import java.util.LinkedHashMap;
import java.util.List;
import java.util.Map;
import java.util.Set;
import java.util.TreeSet;

/**
 * The document once more, as literally as can be and by other means than the class:
 * trees of objects, a reader that calls itself, whole states kept to be undone.
 */
final class Model {
    static final int BAD = -1, STATE = -2, FULL = -3, TRAP = -4, NONE = -9;

    static final class Part {
        char letter;
        int number;
        Part left;
        Part right;

        Part(char letter, int number, Part left, Part right) {
            this.letter = letter;
            this.number = number;
            this.left = left;
            this.right = right;
        }

        boolean leaf() {
            return left == null;
        }

        Part copy() {
            return new Part(letter, number, left == null ? null : left.copy(), right == null ? null : right.copy());
        }

        String told() {
            if (leaf()) {
                return letter == '0' ? Integer.toString(number) : Character.toString(letter);
            }
            return right == null ? "~(" + left.told() + ")" : "(" + left.told() + ")" + letter + "(" + right.told() + ")";
        }

        void collect(List<Part> into) {
            if (left != null) {
                left.collect(into);
            }
            if (right != null) {
                right.collect(into);
            }
            into.add(this);
        }

        boolean mayTrap() {
            return letter == '/' || letter == '#' || left != null && left.mayTrap() || right != null && right.mayTrap();
        }

        boolean commutes() {
            return letter == '+' || letter == '*' || letter == '#';
        }
    }

    static final class Fault extends Exception {
        private static final long serialVersionUID = 1;
        final int place;

        Fault(int place) {
            this.place = place;
        }
    }

    static final class Trap extends Exception {
        private static final long serialVersionUID = 1;
        final transient Part part;

        Trap(Part part) {
            this.part = part;
        }
    }

    static final class World {
        Part root;
        int[] names = new int[8];
        int[] machine = {3, 3, 3, 1, 2};

        World copy() {
            World to = new World();
            to.root = root == null ? null : root.copy();
            to.names = names.clone();
            to.machine = machine.clone();
            return to;
        }
    }

    private World now = new World();
    private World[] images = new World[2];
    private final Deque<World> before = new ArrayDeque<>();
    private String text = "";
    private int asked;
    private int trapped = NONE;

    // ---- reading

    private int at;
    private int made;

    private void blanks() {
        while (at < text.length() && text.charAt(at) == ' ') {
            at++;
        }
    }

    private char peek() {
        blanks();
        return at < text.length() ? text.charAt(at) : (char) 999;
    }

    private Part make(int place, char letter, int number, Part left, Part right) throws Fault {
        if (made == 31) {
            throw new Fault(place);
        }
        made++;
        return new Part(letter, number, left, right);
    }

    private Part sum() throws Fault {
        Part left = product();
        while ("+-#".indexOf(peek()) >= 0) {
            int place = at;
            at++;
            Part right = product();
            left = make(place, text.charAt(place), 0, left, right);
        }
        return left;
    }

    private Part product() throws Fault {
        Part left = part();
        while ("*/".indexOf(peek()) >= 0) {
            int place = at;
            at++;
            Part right = part();
            left = make(place, text.charAt(place), 0, left, right);
        }
        return left;
    }

    private Part part() throws Fault {
        char letter = peek();
        int place = at;
        if (letter >= '0' && letter <= '9') {
            StringBuilder digits = new StringBuilder();
            while (at < text.length() && text.charAt(at) >= '0' && text.charAt(at) <= '9') {
                digits.append(text.charAt(at));
                at++;
            }
            if (!digits.toString().matches("0|[1-9][0-9]?")) {
                throw new Fault(place);
            }
            return make(place, '0', Integer.parseInt(digits.toString()), null, null);
        }
        if (letter >= 'a' && letter <= 'h') {
            at++;
            return make(place, letter, letter - 'a', null, null);
        }
        if (letter == '~') {
            at++;
            Part operand = part();
            return make(place, '~', 0, operand, null);
        }
        if (letter == '(') {
            at++;
            Part inner = sum();
            if (peek() != ')') {
                throw new Fault(at);
            }
            at++;
            return inner;
        }
        throw new Fault(place);
    }

    int type(int letter) {
        if (letter < 0 || letter > 255) {
            return BAD;
        }
        if (text.length() == 60) {
            return FULL;
        }
        text += (char) letter;
        return text.length();
    }

    int clear() {
        int had = text.length();
        text = "";
        return had;
    }

    int tree() {
        at = 0;
        made = 0;
        Part root;
        try {
            root = sum();
            if (peek() != (char) 999) {
                throw new Fault(at);
            }
        } catch (Fault fault) {
            return -10 - fault.place;
        }
        now.root = root;
        text = "";
        images = new World[2];
        before.clear();
        return nodes().size();
    }

    // ---- what is told of nodes

    private List<Part> nodes() {
        List<Part> all = new ArrayList<>();
        if (now.root != null) {
            now.root.collect(all);
        }
        return all;
    }

    private static int number(List<Part> all, Part part) {
        for (int k = 0; k < all.size(); k++) {
            if (all.get(k) == part) {
                return k;
            }
        }
        return NONE;
    }

    private static int join(int l, int r) {
        return l == r ? l + 1 : Math.max(l, r);
    }

    private static int need(Part part, boolean right) {
        if (part.leaf()) {
            return right ? 0 : 1;
        }
        return part.right == null ? need(part.left, false) : join(need(part.left, false), need(part.right, true));
    }

    private static int least(Part part, boolean right) {
        if (part.leaf()) {
            return right ? 0 : 1;
        }
        if (part.right == null) {
            return least(part.left, false);
        }
        int plain = join(least(part.left, false), least(part.right, true));
        if (!part.commutes()) {
            return plain;
        }
        return Math.min(plain, join(least(part.right, false), least(part.left, true)));
    }

    private static boolean standsRight(List<Part> all, Part part) {
        for (Part above : all) {
            if (above.right == part) {
                return true;
            }
        }
        return false;
    }

    int node(int k, int what) {
        List<Part> all = nodes();
        if (k < 0 || k >= all.size() || what < 0 || what > 8) {
            return BAD;
        }
        Part part = all.get(k);
        switch (what) {
            case 0: return part.letter;
            case 1: return part.number;
            case 2: return number(all, part.left);
            case 3: return number(all, part.right);
            case 4: return need(part, standsRight(all, part));
            case 5: return least(part, standsRight(all, part));
            case 6: return part.mayTrap() ? 1 : 0;
            case 7: {
                List<Part> below = new ArrayList<>();
                part.collect(below);
                return below.size();
            }
            default:
                for (int j = 0; j < k; j++) {
                    if (all.get(j).told().equals(part.told())) {
                        return j;
                    }
                }
                return k;
        }
    }

    private static int operate(Part part, int x, int y) throws Trap {
        switch (part.letter) {
            case '+': return x + y;
            case '-': return x - y;
            case '*': return x * y;
            case '~': return 0 - x;
            case '/':
                if (y == 0) {
                    throw new Trap(part);
                }
                return (int) ((long) x / y);
            default: {
                long sum = (long) x + y;
                if (sum > Integer.MAX_VALUE || sum < Integer.MIN_VALUE) {
                    throw new Trap(part);
                }
                return (int) sum;
            }
        }
    }

    private int evaluate(Part part) throws Trap {
        if (part.leaf()) {
            return part.letter == '0' ? part.number : now.names[part.number];
        }
        int x = evaluate(part.left);
        int y = part.right == null ? 0 : evaluate(part.right);
        return operate(part, x, y);
    }

    int value(int k) {
        List<Part> all = nodes();
        if (k < 0 || k >= all.size()) {
            return BAD;
        }
        try {
            asked = evaluate(all.get(k));
            return 1;
        } catch (Trap trap) {
            trapped = number(all, trap.part);
            return TRAP;
        }
    }

    // ---- costs; trees told in 'leaves' count as LEAVES

    private final class Prices {
        final Set<String> leaves;
        final Map<String, int[]> known = new HashMap<>();

        Prices(Set<String> leaves) {
            this.leaves = leaves;
        }

        boolean leaf(Part part) {
            return part.leaf() || leaves.contains(part.told());
        }

        int kept(Part part, int i) {
            return leaf(part) ? 0 : of(part, i)[0] + now.machine[2];
        }

        int cost(Part part, int i) {
            return of(part, i)[0];
        }

        int[] of(Part part, int i) {
            String key = part.told() + "@" + i;
            int[] told = known.get(key);
            if (told == null) {
                told = make(part, i);
                known.put(key, told);
            }
            return told;
        }

        private int[] make(Part part, int i) {
            int load = now.machine[1];
            int op = now.machine[3];
            int opm = now.machine[4];
            if (leaf(part)) {
                return new int[] {load, 0};
            }
            Part l = part.left;
            Part r = part.right;
            if (r == null) {
                return new int[] {cost(l, i) + op, 0};
            }
            boolean both = l.mayTrap() && r.mayTrap();
            Map<Integer, Integer> prices = new LinkedHashMap<>();
            if (i >= 2) {
                prices.put(1, cost(l, i) + cost(r, i - 1) + op);
            }
            if (i >= 2 && !both) {
                prices.put(2, cost(r, i) + cost(l, i - 1) + op);
            }
            if (!both) {
                prices.put(3, kept(r, i) + cost(l, i) + opm);
            }
            if (part.commutes()) {
                prices.put(4, kept(l, i) + cost(r, i) + opm);
            }
            if (i >= 2) {
                prices.put(5, kept(l, i) + cost(r, i) + load + op);
            }
            prices.put(6, kept(l, i) + kept(r, i) + load + opm);
            int[] best = null;
            for (Map.Entry<Integer, Integer> price : prices.entrySet()) {
                if (best == null || price.getValue() < best[0]) {
                    best = new int[] {price.getValue(), price.getKey()};
                }
            }
            return best;
        }
    }

    private int priced(int k, int i, int which) {
        List<Part> all = nodes();
        if (k < 0 || k >= all.size() || i < 1 || i > now.machine[0]) {
            return BAD;
        }
        return new Prices(Set.of()).of(all.get(k), i)[which];
    }

    int cost(int k, int i) {
        return priced(k, i, 0);
    }

    int way(int k, int i) {
        return priced(k, i, 1);
    }

    // ---- programs

    private static final class Line {
        final int what;
        final int register;
        final Part part;
        final int third;
        final int fourth;

        Line(int what, int register, Part part, int third, int fourth) {
            this.what = what;
            this.register = register;
            this.part = part;
            this.third = third;
            this.fourth = fourth;
        }
    }

    private final class Maker {
        final Prices prices = new Prices(Set.of());
        final List<Line> lines = new ArrayList<>();
        final Map<Part, Integer> cells = new HashMap<>();

        private void from(int what, int register, Part done, Part source) {
            int third = source.leaf() ? source.letter == '0' ? 0 : 1 : 2;
            int fourth = source.leaf() ? source.number : cells.get(source);
            lines.add(new Line(what, register, done, third, fourth));
        }

        private void op(int b, Part part, int first, int second) {
            lines.add(new Line(1, b, part, first, second));
        }

        private void kept(Part part, int b, int i) {
            if (!part.leaf()) {
                have(part, b, i);
                int cell = cells.size();
                cells.put(part, cell);
                lines.add(new Line(3, b, part, 2, cell));
            }
        }

        void have(Part part, int b, int i) {
            Part l = part.left;
            Part r = part.right;
            int way = prices.of(part, i)[1];
            if (part.leaf()) {
                from(0, b, part, part);
            } else if (r == null) {
                have(l, b, i);
                op(b, part, b, b);
            } else if (way == 1) {
                have(l, b, i);
                have(r, b + 1, i - 1);
                op(b, part, b, b + 1);
            } else if (way == 2) {
                have(r, b, i);
                have(l, b + 1, i - 1);
                op(b, part, b + 1, b);
            } else if (way == 3) {
                kept(r, b, i);
                have(l, b, i);
                from(2, b, part, r);
            } else if (way == 4) {
                kept(l, b, i);
                have(r, b, i);
                from(2, b, part, l);
            } else if (way == 5) {
                kept(l, b, i);
                have(r, b, i);
                from(0, b + 1, l, l);
                op(b, part, b + 1, b);
            } else {
                kept(l, b, i);
                kept(r, b, i);
                from(0, b, l, l);
                from(2, b, part, r);
            }
        }
    }

    private Maker maker(int i) {
        Maker maker = new Maker();
        maker.have(now.root, 0, i);
        return maker;
    }

    int program(int i, int what) {
        if (now.root == null) {
            return STATE;
        }
        if (i < 1 || i > now.machine[0] || what < 0 || what > 2) {
            return BAD;
        }
        Maker maker = maker(i);
        return what == 0 ? maker.lines.size() : what == 1 ? maker.cells.size() : rootCost(i);
    }

    int line(int j, int what) {
        if (now.root == null) {
            return STATE;
        }
        List<Line> lines = maker(now.machine[0]).lines;
        if (j < 0 || j >= lines.size() || what < 0 || what > 4) {
            return BAD;
        }
        Line line = lines.get(j);
        switch (what) {
            case 0: return line.what;
            case 1: return line.register;
            case 2: return number(nodes(), line.part);
            case 3: return line.third;
            default: return line.fourth;
        }
    }

    int run(int n) {
        if (now.root == null) {
            return STATE;
        }
        List<Line> lines = maker(now.machine[0]).lines;
        if (n < 0 || n > lines.size()) {
            return BAD;
        }
        int[] registers = new int[6];
        int[] cells = new int[99];
        try {
            for (Line line : lines.subList(0, n)) {
                int from = line.third == 0 ? line.fourth : line.third == 1 ? now.names[line.fourth % 8] : cells[line.fourth];
                if (line.what == 0) {
                    registers[line.register] = from;
                } else if (line.what == 1) {
                    registers[line.register] = operate(line.part, registers[line.third], registers[line.fourth]);
                } else if (line.what == 2) {
                    registers[line.register] = operate(line.part, registers[line.register], from);
                } else {
                    cells[line.fourth] = registers[line.register];
                }
            }
        } catch (Trap trap) {
            trapped = number(nodes(), trap.part);
            return TRAP;
        }
        asked = registers[0];
        return 1;
    }

    int fewest() {
        if (now.root == null) {
            return STATE;
        }
        for (int i = 1; i <= now.machine[0]; i++) {
            boolean stores = false;
            for (Line line : maker(i).lines) {
                stores |= line.what == 3;
            }
            if (!stores) {
                return i;
            }
        }
        return NONE;
    }

    // ---- acts

    private int rootCost(int i) {
        return new Prices(Set.of()).cost(now.root, i);
    }

    private void remember() {
        before.addLast(now.copy());
        if (before.size() > 10) {
            before.removeFirst();
        }
    }

    int exchange(int k) {
        if (k < 0 || k >= nodes().size()) {
            return BAD;
        }
        Part part = nodes().get(k);
        if (!part.commutes() || part.left.mayTrap() && part.right.mayTrap()) {
            return STATE;
        }
        remember();
        Part left = part.left;
        part.left = part.right;
        part.right = left;
        return rootCost(now.machine[0]);
    }

    int let(int name, int v) {
        if (name < 0 || name > 7) {
            return BAD;
        }
        remember();
        asked = now.names[name];
        now.names[name] = v;
        return 1;
    }

    int machine(int... numbers) {
        for (int at = 0; at < 5; at++) {
            if (numbers[at] < 1 || numbers[at] > (at == 0 ? 6 : 9)) {
                return BAD;
            }
        }
        remember();
        now.machine = numbers.clone();
        return now.root == null ? 0 : rootCost(numbers[0]);
    }

    int undo() {
        if (before.isEmpty()) {
            return STATE;
        }
        now = before.removeLast();
        return before.size();
    }

    // ---- what is alike

    private List<Part> sharedParts() {
        List<Part> all = nodes();
        List<Part> found = new ArrayList<>();
        Set<String> seen = new TreeSet<>();
        for (Part part : all) {
            if (seen.add(part.told()) && !part.leaf() && !part.mayTrap() && times(all, part) >= 2 && found.size() < 5) {
                found.add(part);
            }
        }
        return found;
    }

    private static int times(List<Part> all, Part part) {
        int times = 0;
        for (Part other : all) {
            if (other.told().equals(part.told())) {
                times++;
            }
        }
        return times;
    }

    int shared(int c, int what) {
        List<Part> found = sharedParts();
        if (c < 0 || c >= found.size() || what < 0 || what > 1) {
            return BAD;
        }
        return what == 0 ? number(nodes(), found.get(c)) : times(nodes(), found.get(c));
    }

    int cheapest(int what) {
        if (now.root == null) {
            return STATE;
        }
        if (what < 0 || what > 1) {
            return BAD;
        }
        List<Part> found = sharedParts();
        int leastSum = Integer.MAX_VALUE;
        int leastSet = 0;
        for (int set = 0; set < 1 << found.size(); set++) {
            int sum = 0;
            Set<String> lower = new TreeSet<>();
            for (int c = 0; c < found.size(); c++) {
                if ((set & 1 << c) != 0) {
                    sum += new Prices(new TreeSet<>(lower)).kept(found.get(c), now.machine[0]);
                    lower.add(found.get(c).told());
                }
            }
            sum += new Prices(lower).cost(now.root, now.machine[0]);
            if (sum < leastSum) {
                leastSum = sum;
                leastSet = set;
            }
        }
        return what == 0 ? leastSum : leastSet;
    }

    // ---- images, what is told

    int keep(int image) {
        if (image < 0 || image > 1) {
            return BAD;
        }
        if (now.root == null) {
            return STATE;
        }
        images[image] = now.copy();
        return nodes().size();
    }

    int back(int image) {
        if (image < 0 || image > 1) {
            return BAD;
        }
        if (images[image] == null) {
            return STATE;
        }
        now = images[image].copy();
        before.clear();
        return nodes().size();
    }

    int asked() {
        return asked;
    }

    int trapped() {
        return trapped;
    }

    int count(int what) {
        switch (what) {
            case 0: return nodes().size();
            case 1: case 2: case 3: case 4: case 5: return now.machine[what - 1];
            case 6: return sharedParts().size();
            case 7: return text.length();
            case 8: return before.size();
            default: return BAD;
        }
    }
}
