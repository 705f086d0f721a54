import java.util.Arrays;

/**
 * Terms and which of them are equal: terms share their parts, equal ones are in one class, rules
 * are put on all classes round by round, what is equal in its parts is equal, and of each class the
 * cheapest term can be had.
 */
public final class EqualTerms {
    public static final int NONE = -1;
    public static final int FULL = -2;
    public static final int OVER = -3;
    public static final int LONG = -4;

    private static final int MOST_TYPED = 60;
    private static final int MOST_BYTES = 8;
    private static final int FIRST_CODE = 33;
    private static final int LAST_CODE = 126;
    private static final int MOST_NODES = 40;
    private static final int MOST_RULES = 6;
    private static final int MOST_SIDE = 7;
    private static final int VARIABLES = 3;
    private static final int MOST_ROUNDS = 20;
    private static final int MOST_PRICE = 1000000000;
    private static final long MOST_COST = 1L << 62;

    private final Text text = new Text();
    private final Graph graph = new Graph();
    private final Walk walk = new Walk(graph);
    private final Round round = new Round(graph, walk);
    private final Cheapest cheapest = new Cheapest(graph);
    private final Rule[] ruleRow = new Rule[MOST_RULES];
    private int ruleCount = 0;

    public EqualTerms() {
    }

    public int type(long characters, int n) {
        return text.append(characters, n);
    }

    public int wipe() {
        int gone = text.size;
        text.clear();
        return gone;
    }

    public int character(int i) {
        return i < 0 || i >= text.size ? NONE : text.characters[i];
    }

    public int place() {
        return text.wrongPlace;
    }

    public int rule() throws IllegalArgumentException, IllegalStateException {
        if (!text.isRule()) {
            throw new IllegalArgumentException("the text is no rule");
        }
        if (ruleCount >= MOST_RULES) {
            throw new IllegalStateException("there are six rules");
        }
        ruleRow[ruleCount] = new Rule(text);
        ruleCount++;
        text.clear();
        return ruleCount;
    }

    public int add() throws IllegalArgumentException, IllegalStateException {
        demandTerm();
        int nodesBefore = graph.nodeCount;
        int classesBefore = graph.classCount;
        if (walk.classOf(text.characters, 0, text.size, true) == NONE) {
            graph.goBack(nodesBefore, classesBefore);
            throw new IllegalStateException("there is no room for the term");
        }
        text.clear();
        return graph.nodeCount;
    }

    public int unite() throws IllegalArgumentException, IllegalStateException {
        demandEquation();
        int nodesBefore = graph.nodeCount;
        int classesBefore = graph.classCount;
        int first = walk.classOf(text.characters, 0, text.middle, true);
        int second = walk.classOf(text.characters, text.middle + 1, text.size, true);
        if (first == NONE || second == NONE) {
            graph.goBack(nodesBefore, classesBefore);
            throw new IllegalStateException("there is no room for the terms");
        }
        if (graph.join(first, second)) {
            graph.settle();
        }
        text.clear();
        return graph.classCount;
    }

    public int same() throws IllegalArgumentException {
        demandEquation();
        int first = walk.classOf(text.characters, 0, text.middle, false);
        int second = walk.classOf(text.characters, text.middle + 1, text.size, false);
        text.clear();
        if (first == NONE || second == NONE) {
            return NONE;
        }
        return first == second ? 1 : 0;
    }

    public void price(int sign, int price) throws IllegalArgumentException {
        if (Signs.parts(sign) == NONE) {
            throw new IllegalArgumentException("no sign of a term");
        }
        if (price < 1 || price > MOST_PRICE) {
            throw new IllegalArgumentException("no price");
        }
        cheapest.prices[sign] = price;
    }

    public int rounds(int most) throws IllegalArgumentException {
        if (most < 0 || most > MOST_ROUNDS) {
            throw new IllegalArgumentException("no number of rounds");
        }
        int changes = 0;
        for (int i = 0; i < most; i++) {
            if (!round.fitAll(ruleRow, ruleCount)) {
                return FULL;
            }
            if (!round.changed) {
                return changes;
            }
            changes++;
        }
        return changes;
    }

    public int nodes() {
        return graph.nodeCount;
    }

    public int classes() {
        return graph.classCount;
    }

    public int members() throws IllegalArgumentException {
        int home = takeTerm();
        return home == NONE ? NONE : graph.sizeOf(home);
    }

    public long cost() throws IllegalArgumentException {
        int home = takeTerm();
        if (home == NONE) {
            return NONE;
        }
        cheapest.weigh();
        return cheapest.costs[home] > MOST_COST ? OVER : cheapest.costs[home];
    }

    public int best() throws IllegalArgumentException {
        int home = takeTerm();
        if (home == NONE) {
            return NONE;
        }
        cheapest.weigh();
        if (cheapest.costs[home] > MOST_COST) {
            return OVER;
        }
        if (cheapest.lengths[home] > MOST_TYPED) {
            return LONG;
        }
        int length = (int) cheapest.lengths[home];
        cheapest.spell(length);
        text.become(cheapest.terms[home], length);
        return length;
    }

    private void demandTerm() throws IllegalArgumentException {
        if (!text.isTerm()) {
            throw new IllegalArgumentException("the text is no term");
        }
    }

    private void demandEquation() throws IllegalArgumentException {
        if (!text.isEquation()) {
            throw new IllegalArgumentException("the text is not two terms");
        }
    }

    /** The class of the text's term, or NONE; the text is empty then. */
    private int takeTerm() throws IllegalArgumentException {
        demandTerm();
        int home = walk.classOf(text.characters, 0, text.size, false);
        text.clear();
        return home;
    }

    /** What each character means. */
    private static final class Signs {
        /** How many terms a term's sign takes; NONE when no term has it. */
        static int parts(int sign) {
            switch (sign) {
                case '+':
                case '*':
                case '^':
                    return 2;
                case '-':
                case '!':
                    return 1;
                case 'x':
                case 'y':
                case 'z':
                    return 0;
                default:
                    return sign >= '0' && sign <= '9' ? 0 : NONE;
            }
        }

        static boolean isVariable(int sign) {
            return sign >= 'a' && sign < 'a' + VARIABLES;
        }

        /** Like parts, but variables can be leaves, too. */
        static int partsInPattern(int sign) {
            return isVariable(sign) ? 0 : parts(sign);
        }
    }

    /** What is typed, and how it is read. */
    private static final class Text {
        final int[] characters = new int[MOST_TYPED];
        int size = 0;
        /** Where the '=' between two sides stands, in the text that was read latest. */
        int middle = NONE;
        int wrongPlace = NONE;

        int append(long bytes, int n) {
            if (n < 1 || n > MOST_BYTES || size + n > MOST_TYPED) {
                return NONE;
            }
            for (int i = 0; i < n; i++) {
                int code = byteAt(bytes, i);
                if (code < FIRST_CODE || code > LAST_CODE) {
                    return NONE;
                }
            }
            for (int i = n - 1; i >= 0; i--) {
                characters[size] = byteAt(bytes, i);
                size++;
            }
            return size;
        }

        private static int byteAt(long bytes, int i) {
            return (int) ((bytes >>> (8 * i)) & 255L);
        }

        void clear() {
            size = 0;
        }

        void become(int[] row, int length) {
            System.arraycopy(row, 0, characters, 0, length);
            size = length;
        }

        boolean isTerm() {
            return noteWrong(firstWrong(false, false));
        }

        boolean isEquation() {
            return noteWrong(firstWrong(true, false));
        }

        boolean isRule() {
            return noteWrong(firstWrong(true, true));
        }

        private boolean noteWrong(int wrong) {
            if (wrong == NONE) {
                return true;
            }
            wrongPlace = wrong;
            return false;
        }

        private int firstWrong(boolean twoSides, boolean patterns) {
            int missing = 1;
            middle = NONE;
            for (int i = 0; i < size; i++) {
                if (missing == 0) {
                    if (!twoSides || middle != NONE || characters[i] != '=') {
                        return i;
                    }
                    middle = i;
                    missing = 1;
                } else {
                    int parts = patterns ? partsInRule(i) : Signs.parts(characters[i]);
                    if (parts == NONE) {
                        return i;
                    }
                    missing += parts - 1;
                }
            }
            boolean whole = missing == 0 && (!twoSides || middle != NONE);
            return whole ? NONE : size;
        }

        /** How many terms character i takes in a rule; NONE when it can't stand there. */
        private int partsInRule(int i) {
            int sideStart = middle == NONE ? 0 : middle + 1;
            if (i - sideStart >= MOST_SIDE) {
                return NONE;
            }
            if (middle != NONE && Signs.isVariable(characters[i]) && !inFirstSide(characters[i])) {
                return NONE;
            }
            return Signs.partsInPattern(characters[i]);
        }

        private boolean inFirstSide(int sign) {
            for (int i = 0; i < middle; i++) {
                if (characters[i] == sign) {
                    return true;
                }
            }
            return false;
        }
    }

    /** Two patterns, and what matching needs to know of the first one. */
    private static final class Rule {
        final int[] characters;
        final int middle;
        /** Of a sign with two parts in the first side: where the second part begins. */
        final int[] secondPart = new int[MOST_SIDE];
        /** Whether it is the first place of a variable in the first side. */
        final boolean[] binds = new boolean[MOST_SIDE];

        Rule(Text text) {
            characters = Arrays.copyOf(text.characters, text.size);
            middle = text.middle;
            int met = 0;
            for (int p = 0; p < middle && p < MOST_SIDE; p++) {
                int sign = characters[p];
                if (Signs.isVariable(sign)) {
                    int bit = 1 << (sign - 'a');
                    binds[p] = (met & bit) == 0;
                    met |= bit;
                }
                secondPart[p] = Signs.parts(sign) == 2 ? endOfPattern(characters, p + 1) : NONE;
            }
        }

        private static int endOfPattern(int[] row, int from) {
            int missing = 1;
            int end = from;
            while (end < row.length && missing > 0) {
                missing += Signs.partsInPattern(row[end]) - 1;
                end++;
            }
            return end;
        }
    }

    /** The nodes and the classes they are in; a class is a number below classCount. */
    private static final class Graph {
        final int[] signs = new int[MOST_NODES];
        final int[] lefts = new int[MOST_NODES];
        final int[] rights = new int[MOST_NODES];
        final int[] homes = new int[MOST_NODES];
        int nodeCount = 0;
        int classCount = 0;
        /** Classes that are joined have one name; the nodes bear it only when that is settled. */
        private final int[] names = new int[MOST_NODES];
        private final int[] numbers = new int[MOST_NODES];

        /** The class of a node; where there is no such node, NONE, or a new one's if growing. */
        int homeOf(int sign, int left, int right, boolean growing) {
            int node = nodeAmong(nodeCount, sign, left, right);
            if (node != NONE) {
                return homes[node];
            }
            if (!growing || nodeCount >= MOST_NODES) {
                return NONE;
            }
            putNode(nodeCount, sign, left, right, classCount);
            nodeCount++;
            names[classCount] = classCount;
            classCount++;
            return classCount - 1;
        }

        private int nodeAmong(int count, int sign, int left, int right) {
            for (int n = 0; n < count; n++) {
                if (signs[n] == sign && lefts[n] == left && rights[n] == right) {
                    return n;
                }
            }
            return NONE;
        }

        private void putNode(int n, int sign, int left, int right, int home) {
            signs[n] = sign;
            lefts[n] = left;
            rights[n] = right;
            homes[n] = home;
        }

        int sizeOf(int home) {
            int size = 0;
            for (int n = 0; n < nodeCount; n++) {
                if (homes[n] == home) {
                    size++;
                }
            }
            return size;
        }

        /** Forgets the nodes made since there were so many, and all that is not settled. */
        void goBack(int nodesBefore, int classesBefore) {
            nodeCount = nodesBefore;
            classCount = classesBefore;
            nameAllByNumber();
        }

        private void nameAllByNumber() {
            for (int c = 0; c < classCount; c++) {
                names[c] = c;
            }
        }

        /** Makes two classes one, but for the nodes, which settle() sees to: whether they were two. */
        boolean join(int first, int second) {
            int kept = names[first];
            int lost = names[second];
            if (kept == lost) {
                return false;
            }
            for (int c = 0; c < classCount; c++) {
                if (names[c] == lost) {
                    names[c] = kept;
                }
            }
            return true;
        }

        void settle() {
            rename();
            for (int pass = 0; pass < MOST_NODES && mergeTwins(); pass++) {
                rename();
            }
            renumber();
        }

        private void rename() {
            for (int n = 0; n < nodeCount; n++) {
                homes[n] = names[homes[n]];
                lefts[n] = lefts[n] == NONE ? NONE : names[lefts[n]];
                rights[n] = rights[n] == NONE ? NONE : names[rights[n]];
            }
        }

        /** Makes nodes that are the same one node, and joins their classes: whether there were any. */
        private boolean mergeTwins() {
            int kept = 0;
            for (int n = 0; n < nodeCount; n++) {
                int twin = nodeAmong(kept, signs[n], lefts[n], rights[n]);
                if (twin == NONE) {
                    putNode(kept, signs[n], lefts[n], rights[n], homes[n]);
                    kept++;
                } else {
                    join(homes[twin], homes[n]);
                }
            }
            boolean merged = kept < nodeCount;
            nodeCount = kept;
            return merged;
        }

        /** Closes the gaps that joined classes leave, so that numbers stay below the node limit. */
        private void renumber() {
            Arrays.fill(numbers, NONE);
            int count = 0;
            for (int n = 0; n < nodeCount; n++) {
                if (numbers[homes[n]] == NONE) {
                    numbers[homes[n]] = count;
                    count++;
                }
            }
            System.arraycopy(numbers, 0, names, 0, MOST_NODES);
            rename();
            classCount = count;
            nameAllByNumber();
        }
    }

    /** Finds, or makes, the nodes of a term or of a pattern whose variables are classes. */
    private static final class Walk {
        final int[] variables = new int[VARIABLES];
        private final Graph graph;
        /** The classes of the terms that no sign has taken yet, the leftmost on top. */
        private final int[] stack = new int[MOST_TYPED];

        Walk(Graph graph) {
            this.graph = graph;
        }

        /**
         * NONE when it is not there or, if growing, when there is no room for it. It goes from the
         * end to the front, where each sign finds its parts done: in which order nodes come to be
         * can't be seen from outside.
         */
        int classOf(int[] row, int from, int to, boolean growing) {
            int waiting = 0;
            int home = NONE;
            for (int i = to - 1; i >= from; i--) {
                int parts = Signs.partsInPattern(row[i]);
                int left = parts > 0 ? stack[waiting - 1] : NONE;
                int right = parts > 1 ? stack[waiting - 2] : NONE;
                home = Signs.isVariable(row[i])
                        ? variables[row[i] - 'a']
                        : graph.homeOf(row[i], left, right, growing);
                if (home == NONE) {
                    return NONE;
                }
                waiting -= parts;
                stack[waiting] = home;
                waiting++;
            }
            return home;
        }
    }

    /** One round of all rules. */
    private static final class Round {
        boolean changed = false;
        private final Graph graph;
        private final Walk walk;
        /** The class that each place of the first side is to be in. */
        private final int[] seats = new int[MOST_SIDE];
        /** The nodes before the round, class by class; those of class c begin at begins[c]. */
        private final int[] listed = new int[MOST_NODES];
        private final int[] begins = new int[MOST_NODES + 1];

        Round(Graph graph, Walk walk) {
            this.graph = graph;
            this.walk = walk;
        }

        /** False, and nothing is done, when the round is full. */
        boolean fitAll(Rule[] rules, int count) {
            int nodesBefore = graph.nodeCount;
            int classesBefore = graph.classCount;
            listNodes();
            changed = false;
            for (int r = 0; r < count; r++) {
                for (int c = 0; c < classesBefore; c++) {
                    seats[0] = c;
                    if (!fitFrom(rules[r], 0)) {
                        graph.goBack(nodesBefore, classesBefore);
                        return false;
                    }
                }
            }
            // Settled only here: until then all rules see the nodes and classes before the round.
            if (changed) {
                graph.settle();
            }
            return true;
        }

        private void listNodes() {
            int count = 0;
            for (int c = 0; c < graph.classCount; c++) {
                begins[c] = count;
                for (int n = 0; n < graph.nodeCount; n++) {
                    if (graph.homes[n] == c) {
                        listed[count] = n;
                        count++;
                    }
                }
            }
            begins[graph.classCount] = count;
        }

        /**
         * Tries all ways in which the first side from place p on can be there, the places before
         * it being set. False when a second side finds no room.
         */
        private boolean fitFrom(Rule rule, int p) {
            if (p >= rule.middle || p >= MOST_SIDE) {
                return joinSides(rule);
            }
            int sign = rule.characters[p];
            if (Signs.isVariable(sign)) {
                if (rule.binds[p]) {
                    walk.variables[sign - 'a'] = seats[p];
                }
                return walk.variables[sign - 'a'] != seats[p] || fitFrom(rule, p + 1);
            }
            int home = seats[p];
            for (int i = begins[home]; i < begins[home + 1]; i++) {
                if (graph.signs[listed[i]] == sign) {
                    seatParts(rule, p, listed[i]);
                    if (!fitFrom(rule, p + 1)) {
                        return false;
                    }
                }
            }
            return true;
        }

        private void seatParts(Rule rule, int p, int node) {
            int parts = Signs.parts(rule.characters[p]);
            if (parts > 0) {
                seats[p + 1] = graph.lefts[node];
            }
            if (parts > 1) {
                seats[rule.secondPart[p]] = graph.rights[node];
            }
        }

        private boolean joinSides(Rule rule) {
            int second = walk.classOf(rule.characters, rule.middle + 1, rule.characters.length, true);
            if (second == NONE) {
                return false;
            }
            // A second side that adds nodes is in a class of its own, so that joining it tells, too.
            if (graph.join(seats[0], second)) {
                changed = true;
            }
            return true;
        }
    }

    /** The least cost of each class, and the best terms. */
    private static final class Cheapest {
        final int[] prices = new int[LAST_CODE + 1];
        /** Of each class; above MOST_COST stands for all that is above it. */
        final long[] costs = new long[MOST_NODES];
        /** Of each class: the signs of its best term; 0 while no cost is known. */
        final long[] lengths = new long[MOST_NODES];
        final int[][] terms = new int[MOST_NODES][MOST_TYPED];
        private final Graph graph;
        private final int[] trial = new int[MOST_TYPED];

        Cheapest(Graph graph) {
            this.graph = graph;
            Arrays.fill(prices, 1);
        }

        /** A best term never has a class inside itself, so passes as many as classes are enough. */
        void weigh() {
            Arrays.fill(costs, MOST_COST + 1);
            Arrays.fill(lengths, 0L);
            boolean better = true;
            for (int pass = 0; pass < graph.classCount && better; pass++) {
                better = false;
                for (int n = 0; n < graph.nodeCount; n++) {
                    if (weighNode(n)) {
                        better = true;
                    }
                }
            }
        }

        /** Whether the node makes its class cheaper, or shorter at the same cost. */
        private boolean weighNode(int n) {
            int home = graph.homes[n];
            long cost = costThrough(n);
            if (cost > MOST_COST || cost > costs[home]) {
                return false;
            }
            long length = lengthThrough(n);
            if (cost == costs[home] && length >= lengths[home]) {
                return false;
            }
            costs[home] = cost;
            lengths[home] = length;
            return true;
        }

        private long costThrough(int n) {
            long cost = prices[graph.signs[n]];
            if (graph.lefts[n] != NONE) {
                cost = sum(cost, costs[graph.lefts[n]]);
            }
            if (graph.rights[n] != NONE) {
                cost = sum(cost, costs[graph.rights[n]]);
            }
            return cost;
        }

        /** Stops above MOST_COST: two costs below it can be more than a long holds. */
        private static long sum(long a, long b) {
            return a > MOST_COST || b > MOST_COST - a ? MOST_COST + 1 : a + b;
        }

        /** Only for a node whose cost is known, which no length is above. */
        private long lengthThrough(int n) {
            long length = 1;
            if (graph.lefts[n] != NONE) {
                length += lengths[graph.lefts[n]];
            }
            if (graph.rights[n] != NONE) {
                length += lengths[graph.rights[n]];
            }
            return length;
        }

        /** Writes the best terms of at most so many signs, the short ones first: they are parts. */
        void spell(int most) {
            for (int c = 0; c < graph.classCount; c++) {
                // This comes after every term.
                terms[c][0] = LAST_CODE + 1;
            }
            for (int length = 1; length <= most && length <= MOST_TYPED; length++) {
                for (int n = 0; n < graph.nodeCount; n++) {
                    if (lengths[graph.homes[n]] == length && isBest(n)) {
                        spellNode(n, length);
                    }
                }
            }
        }

        private boolean isBest(int n) {
            int home = graph.homes[n];
            return costThrough(n) == costs[home] && lengthThrough(n) == lengths[home];
        }

        private void spellNode(int n, int length) {
            trial[0] = graph.signs[n];
            int end = appendTerm(graph.lefts[n], 1);
            appendTerm(graph.rights[n], end);
            int[] term = terms[graph.homes[n]];
            if (trialComesBefore(term, length)) {
                System.arraycopy(trial, 0, term, 0, length);
            }
        }

        private int appendTerm(int part, int at) {
            if (part == NONE) {
                return at;
            }
            int length = (int) lengths[part];
            System.arraycopy(terms[part], 0, trial, at, length);
            return at + length;
        }

        private boolean trialComesBefore(int[] term, int length) {
            for (int i = 0; i < length; i++) {
                if (trial[i] != term[i]) {
                    return trial[i] < term[i];
                }
            }
            return false;
        }
    }
}
