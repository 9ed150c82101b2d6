/**
 * A maker of programs for expressions, as DOC.md promises it.
 *
 * NODES are numbered as they are done with, so every operand stands below its operator:
 * whatever is told of a tree is made in one go over its rows, the lower NODES first.
 */
public final class NeedCode {
    public static final int BAD = -1, STATE = -2, FULL = -3, TRAP = -4, NONE = -9;

    private static final int TEXT_LIMIT = 60, LETTER_LIMIT = 255;
    private static final int NODE_LIMIT = 31;
    private static final int NAME_COUNT = 8;
    private static final int REGISTER_LIMIT = 6, PRICE_LIMIT = 9;
    private static final int UNDO_LIMIT = 10;
    private static final int SHARE_LIMIT = 5;
    private static final int FAULT_BASE = -10;

    /** Where a machine's row has what; count() tells them in this order too. */
    private static final int REGISTERS = 0, LOAD = 1, STORE = 2, OP = 3, OPM = 4, MACHINE_LENGTH = 5;

    /** What a LINE is. */
    private static final int LINE_LOAD = 0, LINE_OP = 1, LINE_OPM = 2, LINE_STORE = 3;

    /** From where a LOAD or an OPM takes. */
    private static final int FROM_NUMBER = 0, FROM_NAME = 1, FROM_CELL = 2;

    private static final int LINE_PARTS = 5;

    /** Of a NODE at most: its own line, a STORE of it, a LOAD of it from its cell. */
    private static final int LINE_LIMIT = 3 * NODE_LIMIT;

    private final Row text = new Row(TEXT_LIMIT);
    private final Reader reader = new Reader();
    private final Image now = new Image();
    private final Image image0 = new Image();
    private final Image image1 = new Image();
    private final Tree spare = new Tree();
    private final Acts acts = new Acts();
    private final Costs costs = new Costs();
    private final Program lines = new Program();
    private final Device device = new Device();
    private final Shares shares = new Shares();
    private int textLength;
    private int told;
    private int trapNode = NONE;

    public NeedCode() {
        now.machine.put(REGISTERS, 3);
        now.machine.put(LOAD, 3);
        now.machine.put(STORE, 3);
        now.machine.put(OP, 1);
        now.machine.put(OPM, 2);
    }

    // ---- 1 trees

    public int type(int letter) {
        if (letter < 0 || letter > LETTER_LIMIT) {
            return BAD;
        }
        if (textLength >= TEXT_LIMIT) {
            return FULL;
        }
        text.put(textLength, letter);
        textLength++;
        return textLength;
    }

    public int clear() {
        int had = textLength;
        textLength = 0;
        return had;
    }

    public int tree() {
        int fault = reader.read(text, textLength, spare);
        if (fault != NONE) {
            return FAULT_BASE - fault;
        }
        spare.derive();
        now.tree.copy(spare);
        textLength = 0;
        image0.kept = false;
        image1.kept = false;
        acts.forget();
        refresh();
        return now.tree.size;
    }

    public int node(int k, int what) {
        if (!now.tree.has(k)) {
            return BAD;
        }
        switch (what) {
            case 0: return now.tree.letters.get(k);
            case 1: return now.tree.numbers.get(k);
            case 2: return now.tree.lefts.get(k);
            case 3: return now.tree.rights.get(k);
            case 4: return now.tree.needs.get(k);
            case 5: return now.tree.leasts.get(k);
            case 6: return now.tree.traps.get(k);
            case 7: return now.tree.spans.get(k);
            case 8: return now.tree.alikes.get(k);
            default: return BAD;
        }
    }

    public int value(int k) {
        if (!now.tree.has(k)) {
            return BAD;
        }
        return tell(device.evaluate(now.tree, now.names, k));
    }

    // ---- 2 programs

    public int cost(int k, int i) {
        return now.tree.has(k) && hasRegisters(i) ? costs.costOf(k, i) : BAD;
    }

    public int way(int k, int i) {
        return now.tree.has(k) && hasRegisters(i) ? costs.wayOf(k, i) : BAD;
    }

    public int program(int i, int what) {
        if (now.tree.isEmpty()) {
            return STATE;
        }
        if (!hasRegisters(i) || what < 0 || what > 2) {
            return BAD;
        }
        if (what == 2) {
            return costs.costOf(now.tree.root(), i);
        }
        lines.makeBy(i, now.tree, costs);
        return what == 0 ? lines.length : lines.cells;
    }

    public int line(int j, int what) {
        if (now.tree.isEmpty()) {
            return STATE;
        }
        lines.makeBy(registers(), now.tree, costs);
        if (j < 0 || j >= lines.length || what < 0 || what >= LINE_PARTS) {
            return BAD;
        }
        return lines.part(j, what);
    }

    public int run(int n) {
        if (now.tree.isEmpty()) {
            return STATE;
        }
        lines.makeBy(registers(), now.tree, costs);
        if (n < 0 || n > lines.length) {
            return BAD;
        }
        return tell(device.goThrough(lines, n, now.tree, now.names));
    }

    public int fewest() {
        if (now.tree.isEmpty()) {
            return STATE;
        }
        for (int i = 1; i <= registers(); i++) {
            lines.makeBy(i, now.tree, costs);
            if (lines.cells == 0) {
                return i;
            }
        }
        return NONE;
    }

    // ---- 3 acts

    public int exchange(int k) {
        if (!now.tree.has(k)) {
            return BAD;
        }
        if (!now.tree.isExchangeable(k)) {
            return STATE;
        }
        acts.addExchange(k);
        now.tree.turn(k, spare);
        refresh();
        return rootCost();
    }

    public int let(int name, int v) {
        if (name < 0 || name >= NAME_COUNT) {
            return BAD;
        }
        told = now.names.get(name);
        acts.addLet(name, told);
        now.names.put(name, v);
        return 1;
    }

    public int machine(int registers, int load, int store, int op, int opm) {
        if (registers < 1 || registers > REGISTER_LIMIT
                || !isPrice(load) || !isPrice(store) || !isPrice(op) || !isPrice(opm)) {
            return BAD;
        }
        acts.addMachine(now.machine);
        now.machine.put(REGISTERS, registers);
        now.machine.put(LOAD, load);
        now.machine.put(STORE, store);
        now.machine.put(OP, op);
        now.machine.put(OPM, opm);
        refresh();
        return now.tree.isEmpty() ? 0 : rootCost();
    }

    public int undo() {
        if (acts.known == 0) {
            return STATE;
        }
        int kind = acts.latestKind();
        if (kind == Acts.EXCHANGE) {
            now.tree.turn(acts.latestPlace(), spare);
            refresh();
        } else if (kind == Acts.LET) {
            now.names.put(acts.latestPlace(), acts.latestNumber());
        } else {
            acts.tellMachine(now.machine);
            refresh();
        }
        acts.drop();
        return acts.known;
    }

    // ---- 4 what is alike

    public int shared(int c, int what) {
        if (c < 0 || c >= shares.found || what < 0 || what > 1) {
            return BAD;
        }
        return what == 0 ? shares.firsts.get(c) : shares.times.get(c);
    }

    public int cheapest(int what) {
        if (now.tree.isEmpty()) {
            return STATE;
        }
        if (what < 0 || what > 1) {
            return BAD;
        }
        shares.weigh(now.tree, now.machine);
        return what == 0 ? shares.leastSum : shares.leastSet;
    }

    // ---- images, what is told

    public int keep(int image) {
        if (image < 0 || image > 1) {
            return BAD;
        }
        if (now.tree.isEmpty()) {
            return STATE;
        }
        Image to = imageOf(image);
        to.copy(now);
        to.kept = true;
        return now.tree.size;
    }

    public int back(int image) {
        if (image < 0 || image > 1) {
            return BAD;
        }
        Image from = imageOf(image);
        if (!from.kept) {
            return STATE;
        }
        now.copy(from);
        acts.forget();
        refresh();
        return now.tree.size;
    }

    public int asked() {
        return told;
    }

    public int trapped() {
        return trapNode;
    }

    public int count(int what) {
        switch (what) {
            case 0: return now.tree.size;
            case 1: return now.machine.get(REGISTERS);
            case 2: return now.machine.get(LOAD);
            case 3: return now.machine.get(STORE);
            case 4: return now.machine.get(OP);
            case 5: return now.machine.get(OPM);
            case 6: return shares.found;
            case 7: return textLength;
            case 8: return acts.known;
            default: return BAD;
        }
    }

    // ---- what the calls have in common

    private int registers() {
        return now.machine.get(REGISTERS);
    }

    private boolean hasRegisters(int i) {
        return i >= 1 && i <= registers();
    }

    private static boolean isPrice(int price) {
        return price >= 1 && price <= PRICE_LIMIT;
    }

    private Image imageOf(int image) {
        return image == 0 ? image0 : image1;
    }

    private int rootCost() {
        return costs.costOf(now.tree.root(), registers());
    }

    /** The answer of a call that asked the device, which trapped or has a result. */
    private int tell(boolean came) {
        if (!came) {
            trapNode = device.trap;
            return TRAP;
        }
        told = device.result;
        return 1;
    }

    /** Behind a change of the tree or THE MACHINE; what few calls ask for is made when it is asked for. */
    private void refresh() {
        shares.find(now.tree);
        costs.fill(now.tree, now.machine);
        lines.forget();
    }

    /** Ints by index; beyond its ends a row has 0 and takes nothing, so that no index can throw. */
    private static final class Row {
        private final int[] ints;

        Row(int length) {
            ints = new int[Math.max(0, length)];
        }

        int get(int index) {
            return index >= 0 && index < ints.length ? ints[index] : 0;
        }

        void put(int index, int number) {
            if (index >= 0 && index < ints.length) {
                ints[index] = number;
            }
        }

        void copy(Row other) {
            System.arraycopy(other.ints, 0, ints, 0, Math.min(ints.length, other.ints.length));
        }

        void empty() {
            for (int index = 0; index < ints.length; index++) {
                ints[index] = 0;
            }
        }
    }

    /** What each operator is, by its letter. */
    private static final class Operators {
        private Operators() {
        }

        static boolean isCommuting(int letter) {
            return letter == '+' || letter == '*' || letter == '#';
        }

        static boolean canTrap(int letter) {
            return letter == '/' || letter == '#';
        }

        static boolean isOfSum(int letter) {
            return letter == '+' || letter == '-' || letter == '#';
        }

        static boolean isOfProduct(int letter) {
            return letter == '*' || letter == '/';
        }

        /** How firmly it holds its operands; 0 of a parenthesis, which holds none. */
        static int grip(int letter) {
            if (letter == '~') {
                return 3;
            }
            if (isOfProduct(letter)) {
                return 2;
            }
            return isOfSum(letter) ? 1 : 0;
        }

        static boolean trapsBy(int letter, int x, int y) {
            if (letter == '/') {
                return y == 0;
            }
            return letter == '#' && (long) x + y != x + y;
        }

        static int outcome(int letter, int x, int y) {
            switch (letter) {
                case '~': return -x;
                case '-': return x - y;
                case '*': return x * y;
                case '/': return y == 0 ? 0 : x / y;
                default: return x + y;
            }
        }
    }

    /** NODES in rows, and what is told of each. */
    private static final class Tree {
        private final Row letters = new Row(NODE_LIMIT);
        private final Row numbers = new Row(NODE_LIMIT);
        private final Row lefts = new Row(NODE_LIMIT);
        private final Row rights = new Row(NODE_LIMIT);
        private final Row needs = new Row(NODE_LIMIT);
        private final Row leasts = new Row(NODE_LIMIT);
        private final Row traps = new Row(NODE_LIMIT);
        private final Row spans = new Row(NODE_LIMIT);
        private final Row alikes = new Row(NODE_LIMIT);
        private int size;

        boolean isEmpty() {
            return size == 0;
        }

        boolean isFull() {
            return size >= NODE_LIMIT;
        }

        boolean has(int k) {
            return k >= 0 && k < size;
        }

        int root() {
            return size - 1;
        }

        boolean isLeaf(int k) {
            return lefts.get(k) == NONE;
        }

        boolean isPair(int k) {
            return rights.get(k) != NONE;
        }

        boolean isCommuting(int k) {
            return Operators.isCommuting(letters.get(k));
        }

        boolean mayTrap(int k) {
            return traps.get(k) == 1;
        }

        boolean bothMayTrap(int k) {
            return traps.get(lefts.get(k)) == 1 && traps.get(rights.get(k)) == 1;
        }

        boolean isExchangeable(int k) {
            return isCommuting(k) && !bothMayTrap(k);
        }

        void empty() {
            size = 0;
        }

        void add(int letter, int number, int left, int right) {
            letters.put(size, letter);
            numbers.put(size, number);
            lefts.put(size, left);
            rights.put(size, right);
            size++;
        }

        void copy(Tree other) {
            letters.copy(other.letters);
            numbers.copy(other.numbers);
            lefts.copy(other.lefts);
            rights.copy(other.rights);
            needs.copy(other.needs);
            leasts.copy(other.leasts);
            traps.copy(other.traps);
            spans.copy(other.spans);
            alikes.copy(other.alikes);
            size = other.size;
        }

        /** Makes all that follows from letters and operands. */
        void derive() {
            for (int k = 0; k < size; k++) {
                if (isLeaf(k)) {
                    deriveLeaf(k);
                } else if (isPair(k)) {
                    derivePair(k);
                } else {
                    deriveSingle(k);
                }
                alikes.put(k, lowestAlike(k));
            }
        }

        /** As if it stood left: an operator that has it right sets that right when its turn comes. */
        private void deriveLeaf(int k) {
            needs.put(k, 1);
            leasts.put(k, 1);
            traps.put(k, 0);
            spans.put(k, 1);
        }

        private void deriveSingle(int k) {
            int operand = lefts.get(k);
            needs.put(k, needs.get(operand));
            leasts.put(k, leasts.get(operand));
            traps.put(k, traps.get(operand));
            spans.put(k, spans.get(operand) + 1);
        }

        private void derivePair(int k) {
            int l = lefts.get(k);
            int r = rights.get(k);
            if (isLeaf(r)) {
                needs.put(r, 0);
                leasts.put(r, 0);
            }
            needs.put(k, joint(needs.get(l), needs.get(r)));
            leasts.put(k, leastOfPair(k, l, r));
            boolean trapping = Operators.canTrap(letters.get(k)) || mayTrap(l) || mayTrap(r);
            traps.put(k, trapping ? 1 : 0);
            spans.put(k, spans.get(l) + spans.get(r) + 1);
        }

        /** Operands that both MAY TRAP need no look here: they are no LEAVES, so their order is all the same. */
        private int leastOfPair(int k, int l, int r) {
            int asTold = joint(leasts.get(l), leasts.get(r));
            if (!isCommuting(k)) {
                return asTold;
            }
            int rightFirst = isLeaf(r) ? 1 : leasts.get(r);
            int leftLast = isLeaf(l) ? 0 : leasts.get(l);
            return Math.min(asTold, joint(rightFirst, leftLast));
        }

        private static int joint(int first, int second) {
            return first == second ? first + 1 : Math.max(first, second);
        }

        private int lowestAlike(int k) {
            for (int j = 0; j < k; j++) {
                if (areAlike(j, k)) {
                    return j;
                }
            }
            return k;
        }

        private boolean areAlike(int j, int k) {
            return letters.get(j) == letters.get(k) && numbers.get(j) == numbers.get(k)
                    && kindOf(lefts.get(j)) == kindOf(lefts.get(k))
                    && kindOf(rights.get(j)) == kindOf(rights.get(k));
        }

        /** The lowest NODE ALIKE stands for all of them. */
        private int kindOf(int operand) {
            return operand == NONE ? NONE : alikes.get(operand);
        }

        /** The operands of k change places, by their spans; old is overwritten. */
        void turn(int k, Tree old) {
            old.copy(this);
            int l = old.lefts.get(k);
            int r = old.rights.get(k);
            int leftSpan = old.spans.get(l);
            int rightSpan = old.spans.get(r);
            for (int j = l - leftSpan + 1; j <= l; j++) {
                move(old, j, rightSpan);
            }
            for (int j = r - rightSpan + 1; j <= r; j++) {
                move(old, j, -leftSpan);
            }
            lefts.put(k, r - leftSpan);
            rights.put(k, l + rightSpan);
            derive();
        }

        private void move(Tree old, int from, int shift) {
            int left = old.lefts.get(from);
            int right = old.rights.get(from);
            letters.put(from + shift, old.letters.get(from));
            numbers.put(from + shift, old.numbers.get(from));
            lefts.put(from + shift, left == NONE ? NONE : left + shift);
            rights.put(from + shift, right == NONE ? NONE : right + shift);
        }
    }

    /** What an IMAGE keeps; the one that is worked on is one too. */
    private static final class Image {
        private final Tree tree = new Tree();
        private final Row names = new Row(NAME_COUNT);
        private final Row machine = new Row(MACHINE_LENGTH);
        private boolean kept;

        void copy(Image other) {
            tree.copy(other.tree);
            names.copy(other.names);
            machine.copy(other.machine);
        }
    }

    /** Reads a text; operators wait on a pile for their right operands, so that nothing calls itself. */
    private static final class Reader {
        private static final int END = -1;

        private final Row marks = new Row(TEXT_LIMIT);
        private final Row markPlaces = new Row(TEXT_LIMIT);
        private final Row parts = new Row(NODE_LIMIT);
        private int markCount;
        private int partCount;
        private int place;
        private int fault;
        private boolean partIsDue;
        private boolean ended;

        /** FAULT; NONE, and the tree's NODES are made, if there is none. */
        int read(Row text, int length, Tree tree) {
            markCount = 0;
            partCount = 0;
            place = 0;
            fault = NONE;
            partIsDue = true;
            ended = false;
            tree.empty();
            for (int step = 0; step <= length && !ended && fault == NONE; step++) {
                int letter = place < length ? text.get(place) : END;
                if (letter == ' ') {
                    place++;
                } else if (partIsDue) {
                    takePart(letter, text, length, tree);
                } else {
                    takeOperator(letter, tree);
                }
            }
            return fault;
        }

        private void takePart(int letter, Row text, int length, Tree tree) {
            int digits = digitsHere(text, length);
            if (letter == '(' || letter == '~') {
                pile(letter);
            } else if (letter >= 'a' && letter <= 'h') {
                addLeaf(tree, letter, letter - 'a', 1);
            } else if (digits == 1) {
                addLeaf(tree, '0', letter - '0', 1);
            } else if (digits == 2 && letter != '0') {
                addLeaf(tree, '0', (letter - '0') * 10 + text.get(place + 1) - '0', 2);
            } else {
                fault = place;
            }
        }

        private int digitsHere(Row text, int length) {
            int digits = 0;
            while (place + digits < length && isDigit(text.get(place + digits))) {
                digits++;
            }
            return digits;
        }

        /** Behind a part all that holds it as firmly is done first: a 32nd NODE is a FAULT ahead of this letter. */
        private void takeOperator(int letter, Tree tree) {
            boolean goesOn = Operators.isOfSum(letter) || Operators.isOfProduct(letter);
            settle(goesOn ? Operators.grip(letter) : 1, tree);
            if (fault != NONE) {
                return;
            }
            if (goesOn) {
                pile(letter);
                partIsDue = true;
            } else if (letter == ')' && markCount > 0) {
                markCount--;
                place++;
            } else if (letter == END && markCount == 0) {
                ended = true;
            } else {
                fault = place;
            }
        }

        private void pile(int letter) {
            marks.put(markCount, letter);
            markPlaces.put(markCount, place);
            markCount++;
            place++;
        }

        /** Does the waiting operators down to one that grips less. */
        private void settle(int grip, Tree tree) {
            while (markCount > 0 && fault == NONE && Operators.grip(marks.get(markCount - 1)) >= grip) {
                markCount--;
                int letter = marks.get(markCount);
                int last = takeOff();
                int left = letter == '~' ? last : takeOff();
                int right = letter == '~' ? NONE : last;
                addNode(tree, letter, 0, left, right, markPlaces.get(markCount));
            }
        }

        private void addLeaf(Tree tree, int letter, int number, int letters) {
            addNode(tree, letter, number, NONE, NONE, place);
            partIsDue = false;
            place += letters;
        }

        private int takeOff() {
            partCount--;
            return parts.get(partCount);
        }

        private void addNode(Tree tree, int letter, int number, int left, int right, int letterPlace) {
            if (tree.isFull()) {
                fault = letterPlace;
                return;
            }
            tree.add(letter, number, left, right);
            parts.put(partCount, tree.root());
            partCount++;
        }

        private static boolean isDigit(int letter) {
            return letter >= '0' && letter <= '9';
        }
    }

    /** COST and WAY of each NODE by each number of REGISTERS. */
    private static final class Costs {
        private static final int WIDTH = REGISTER_LIMIT + 1;

        private final Row costs = new Row(NODE_LIMIT * WIDTH);
        private final Row ways = new Row(NODE_LIMIT * WIDTH);
        private final Row leaves = new Row(NODE_LIMIT);
        private int leastWay;
        private int leastPrice;

        int costOf(int k, int i) {
            return costs.get(k * WIDTH + i);
        }

        int wayOf(int k, int i) {
            return ways.get(k * WIDTH + i);
        }

        void fill(Tree tree, Row machine) {
            for (int k = 0; k < tree.size; k++) {
                fillNode(tree, machine, k);
            }
        }

        void fillNode(Tree tree, Row machine, int k) {
            if (tree.isLeaf(k)) {
                countAsLeaf(machine, k);
                return;
            }
            leaves.put(k, 0);
            for (int i = 1; i <= machine.get(REGISTERS); i++) {
                if (tree.isPair(k)) {
                    choose(tree, machine, k, i);
                } else {
                    put(k, i, costOf(tree.lefts.get(k), i) + machine.get(OP), 0);
                }
            }
        }

        void countAsLeaf(Row machine, int k) {
            leaves.put(k, 1);
            for (int i = 1; i <= machine.get(REGISTERS); i++) {
                put(k, i, machine.get(LOAD), 0);
            }
        }

        private void put(int k, int i, int cost, int way) {
            costs.put(k * WIDTH + i, cost);
            ways.put(k * WIDTH + i, way);
        }

        private void choose(Tree tree, Row machine, int k, int i) {
            int l = tree.lefts.get(k);
            int r = tree.rights.get(k);
            int load = machine.get(LOAD);
            int op = machine.get(OP);
            int opm = machine.get(OPM);
            int leftCost = costOf(l, i);
            int rightCost = costOf(r, i);
            int leftKept = keptOf(machine, l, i);
            int rightKept = keptOf(machine, r, i);
            boolean hasTwo = i >= 2;
            boolean rightMayBeFirst = !tree.bothMayTrap(k);
            leastWay = 0;
            offer(1, hasTwo, leftCost + costOf(r, i - 1) + op);
            offer(2, hasTwo && rightMayBeFirst, rightCost + costOf(l, i - 1) + op);
            offer(3, rightMayBeFirst, rightKept + leftCost + opm);
            offer(4, tree.isCommuting(k), leftKept + rightCost + opm);
            offer(5, hasTwo, leftKept + rightCost + load + op);
            offer(6, true, leftKept + rightKept + load + opm);
            put(k, i, leastPrice, leastWay);
        }

        private void offer(int way, boolean mayBe, int price) {
            if (mayBe && (leastWay == 0 || price < leastPrice)) {
                leastWay = way;
                leastPrice = price;
            }
        }

        private int keptOf(Row machine, int k, int i) {
            return leaves.get(k) == 1 ? 0 : costs.get(k * WIDTH + i) + machine.get(STORE);
        }
    }

    /** THE PROGRAM's LINES, by one number of REGISTERS at a time. */
    private static final class Program {
        private final Row rows = new Row(LINE_LIMIT * LINE_PARTS);
        private final Row cellOf = new Row(NODE_LIMIT);
        private int length;
        private int cells;
        private int madeBy;

        int part(int j, int what) {
            return rows.get(j * LINE_PARTS + what);
        }

        void forget() {
            madeBy = 0;
        }

        void makeBy(int i, Tree tree, Costs costs) {
            if (madeBy == i) {
                return;
            }
            madeBy = i;
            length = 0;
            cells = 0;
            have(tree, costs, tree.root(), 0, i, 0);
        }

        /** To have NODE k in register b by i REGISTERS; no NODE lies deeper than there are NODES. */
        private void have(Tree tree, Costs costs, int k, int b, int i, int depth) {
            if (depth >= NODE_LIMIT) {
                return;
            }
            if (tree.isLeaf(k)) {
                add(LINE_LOAD, b, k, sourceKind(tree, k), sourceNumber(tree, k));
            } else if (!tree.isPair(k)) {
                have(tree, costs, tree.lefts.get(k), b, i, depth + 1);
                add(LINE_OP, b, k, b, b);
            } else {
                haveByWay(tree, costs, k, b, i, depth);
            }
        }

        private void haveByWay(Tree tree, Costs costs, int k, int b, int i, int depth) {
            int l = tree.lefts.get(k);
            int r = tree.rights.get(k);
            switch (costs.wayOf(k, i)) {
                case 1:
                    have(tree, costs, l, b, i, depth + 1);
                    have(tree, costs, r, b + 1, i - 1, depth + 1);
                    add(LINE_OP, b, k, b, b + 1);
                    break;
                case 2:
                    have(tree, costs, r, b, i, depth + 1);
                    have(tree, costs, l, b + 1, i - 1, depth + 1);
                    add(LINE_OP, b, k, b + 1, b);
                    break;
                case 3:
                    haveKept(tree, costs, r, b, i, depth + 1);
                    have(tree, costs, l, b, i, depth + 1);
                    add(LINE_OPM, b, k, sourceKind(tree, r), sourceNumber(tree, r));
                    break;
                case 4:
                    haveKept(tree, costs, l, b, i, depth + 1);
                    have(tree, costs, r, b, i, depth + 1);
                    add(LINE_OPM, b, k, sourceKind(tree, l), sourceNumber(tree, l));
                    break;
                case 5:
                    haveKept(tree, costs, l, b, i, depth + 1);
                    have(tree, costs, r, b, i, depth + 1);
                    add(LINE_LOAD, b + 1, l, sourceKind(tree, l), sourceNumber(tree, l));
                    add(LINE_OP, b, k, b + 1, b);
                    break;
                default:
                    haveKept(tree, costs, l, b, i, depth + 1);
                    haveKept(tree, costs, r, b, i, depth + 1);
                    add(LINE_LOAD, b, l, sourceKind(tree, l), sourceNumber(tree, l));
                    add(LINE_OPM, b, k, sourceKind(tree, r), sourceNumber(tree, r));
                    break;
            }
        }

        private void haveKept(Tree tree, Costs costs, int k, int b, int i, int depth) {
            if (tree.isLeaf(k)) {
                return;
            }
            have(tree, costs, k, b, i, depth);
            cellOf.put(k, cells);
            add(LINE_STORE, b, k, FROM_CELL, cells);
            cells++;
        }

        private static int sourceKind(Tree tree, int k) {
            if (!tree.isLeaf(k)) {
                return FROM_CELL;
            }
            return tree.letters.get(k) == '0' ? FROM_NUMBER : FROM_NAME;
        }

        private int sourceNumber(Tree tree, int k) {
            return tree.isLeaf(k) ? tree.numbers.get(k) : cellOf.get(k);
        }

        private void add(int kind, int register, int k, int third, int fourth) {
            int from = length * LINE_PARTS;
            rows.put(from, kind);
            rows.put(from + 1, register);
            rows.put(from + 2, k);
            rows.put(from + 3, third);
            rows.put(from + 4, fourth);
            length++;
        }
    }

    /** Comes to ints, by a tree or by LINES: true and a result, or false and the NODE of the TRAP. */
    private static final class Device {
        private final Row values = new Row(NODE_LIMIT);
        private final Row registers = new Row(REGISTER_LIMIT);
        private final Row cells = new Row(NODE_LIMIT);
        private int result;
        private int trap = NONE;

        /** NODES below k stand right ahead of it, in the order of the text. */
        boolean evaluate(Tree tree, Row names, int k) {
            for (int j = k - tree.spans.get(k) + 1; j <= k; j++) {
                if (!tree.isLeaf(j)) {
                    int x = values.get(tree.lefts.get(j));
                    int y = values.get(tree.rights.get(j));
                    if (!operate(tree, j, x, y)) {
                        return false;
                    }
                    values.put(j, result);
                } else if (tree.letters.get(j) == '0') {
                    values.put(j, tree.numbers.get(j));
                } else {
                    values.put(j, names.get(tree.numbers.get(j)));
                }
            }
            result = values.get(k);
            return true;
        }

        boolean goThrough(Program lines, int n, Tree tree, Row names) {
            registers.empty();
            cells.empty();
            for (int j = 0; j < n; j++) {
                if (!step(lines, j, tree, names)) {
                    return false;
                }
            }
            result = registers.get(0);
            return true;
        }

        private boolean step(Program lines, int j, Tree tree, Row names) {
            int register = lines.part(j, 1);
            int node = lines.part(j, 2);
            int third = lines.part(j, 3);
            int fourth = lines.part(j, 4);
            boolean came = true;
            switch (lines.part(j, 0)) {
                case LINE_LOAD:
                    result = source(names, third, fourth);
                    break;
                case LINE_OP:
                    came = operate(tree, node, registers.get(third), registers.get(fourth));
                    break;
                case LINE_OPM:
                    came = operate(tree, node, registers.get(register), source(names, third, fourth));
                    break;
                default:
                    result = registers.get(register);
                    cells.put(fourth, result);
                    break;
            }
            if (came) {
                registers.put(register, result);
            }
            return came;
        }

        private int source(Row names, int kind, int number) {
            if (kind == FROM_NUMBER) {
                return number;
            }
            return kind == FROM_NAME ? names.get(number) : cells.get(number);
        }

        private boolean operate(Tree tree, int k, int x, int y) {
            int letter = tree.letters.get(k);
            if (Operators.trapsBy(letter, x, y)) {
                trap = k;
                return false;
            }
            result = Operators.outcome(letter, x, y);
            return true;
        }
    }

    /** What can be UNDONE, in a ring: the newest takes the oldest one's place. */
    private static final class Acts {
        private static final int EXCHANGE = 0, LET = 1, MACHINE = 2;

        private final Row kinds = new Row(UNDO_LIMIT);
        private final Row places = new Row(UNDO_LIMIT);
        private final Row numbers = new Row(UNDO_LIMIT);
        private final Row machines = new Row(UNDO_LIMIT * MACHINE_LENGTH);
        private int latest;
        private int known;

        void forget() {
            known = 0;
        }

        void addExchange(int k) {
            add(EXCHANGE, k, 0);
        }

        void addLet(int name, int number) {
            add(LET, name, number);
        }

        void addMachine(Row machine) {
            add(MACHINE, 0, 0);
            for (int at = 0; at < MACHINE_LENGTH; at++) {
                machines.put(latest * MACHINE_LENGTH + at, machine.get(at));
            }
        }

        private void add(int kind, int place, int number) {
            latest = (latest + 1) % UNDO_LIMIT;
            known = Math.min(known + 1, UNDO_LIMIT);
            kinds.put(latest, kind);
            places.put(latest, place);
            numbers.put(latest, number);
        }

        int latestKind() {
            return kinds.get(latest);
        }

        int latestPlace() {
            return places.get(latest);
        }

        int latestNumber() {
            return numbers.get(latest);
        }

        void tellMachine(Row machine) {
            for (int at = 0; at < MACHINE_LENGTH; at++) {
                machine.put(at, machines.get(latest * MACHINE_LENGTH + at));
            }
        }

        void drop() {
            latest = (latest + UNDO_LIMIT - 1) % UNDO_LIMIT;
            known--;
        }
    }

    /** What is SHARED, and CHEAPEST by sets of that; bit c of a set's number is the one numbered c. */
    private static final class Shares {
        private final Row firsts = new Row(SHARE_LIMIT);
        private final Row times = new Row(SHARE_LIMIT);
        private final Costs trial = new Costs();
        private int found;
        private int leastSum;
        private int leastSet;
        private boolean weighed;

        void find(Tree tree) {
            found = 0;
            weighed = false;
            for (int k = 0; k < tree.size && found < SHARE_LIMIT; k++) {
                if (tree.alikes.get(k) == k && !tree.isLeaf(k) && !tree.mayTrap(k)) {
                    int often = timesOf(tree, k);
                    if (often >= 2) {
                        firsts.put(found, k);
                        times.put(found, often);
                        found++;
                    }
                }
            }
        }

        private static int timesOf(Tree tree, int first) {
            int often = 0;
            for (int k = first; k < tree.size; k++) {
                if (tree.alikes.get(k) == first) {
                    often++;
                }
            }
            return often;
        }

        void weigh(Tree tree, Row machine) {
            if (weighed) {
                return;
            }
            weighed = true;
            leastSet = 0;
            leastSum = sumBy(0, tree, machine);
            for (int set = 1; set < 1 << found; set++) {
                int sum = sumBy(set, tree, machine);
                if (sum < leastSum) {
                    leastSum = sum;
                    leastSet = set;
                }
            }
        }

        /** Below a tree of the set only lower ones occur, so one go serves all of the set and the ROOT. */
        private int sumBy(int set, Tree tree, Row machine) {
            int sum = 0;
            int all = machine.get(REGISTERS);
            for (int k = 0; k < tree.size; k++) {
                trial.fillNode(tree, machine, k);
                if (isOfSet(set, tree.alikes.get(k))) {
                    if (tree.alikes.get(k) == k) {
                        sum += trial.keptOf(machine, k, all);
                    }
                    trial.countAsLeaf(machine, k);
                }
            }
            return sum + trial.costOf(tree.root(), all);
        }

        private boolean isOfSet(int set, int first) {
            for (int c = 0; c < found; c++) {
                if (firsts.get(c) == first) {
                    return (set >> c & 1) == 1;
                }
            }
            return false;
        }
    }
}
