import java.util.Arrays;

/**
 * Trees grafted as operations, and rules by which two nodes, one on the other,
 * become two others. What each call promises is told in the document DOC.md.
 *
 * No call makes an object: all rows are made once, by the constructor.
 */
public final class GraftRules {
    public static final int NONE = -1, UNKNOWN = -1000000001, OUTSIDE = -1000000002, NOT = -1000000003, FULL = -1000000004;

    private static final int MOST_NODES = 6;
    private static final int MOST_FIGURES = 2 * MOST_NODES + 1;
    private static final int MOST_LEAVES = MOST_NODES + 1;
    private static final int MOST_TREES = 8;
    private static final int MOST_TEXT = 30;
    private static final int MOST_STEPS = 60;
    private static final int MOST_DEEDS = 20;
    private static final int MOST_ENTRIES = 20;
    private static final int MOST_DRIFT = 8;
    private static final int MOST_DRAWN_NODES = 5;
    private static final int PATTERNS = 8;
    private static final int LETTERS = 2;
    private static final int IMAGES = 2;

    private static final int LEAF = 0;
    private static final int LEFT = 0;
    private static final int RIGHT = 1;

    private static final int FREE = 0;
    private static final int NOTHING = 1;
    private static final int BECOMES = 2;
    private static final int BECOMES_OTHER_SIGN = 3;

    private static final int NO_FAULT = 0;
    private static final int CANNOT_STAND = 1;
    private static final int SEVENTH_NODE = 2;

    // A tree of three nodes has seven figures, the first of which weighs 729;
    // these are the weights of its second and third node, for each of the five shapes.
    private static final int FIRST_WEIGHT = 729;
    private static final int[] SECOND_WEIGHT = {243, 243, 243, 81, 81};
    private static final int[] THIRD_WEIGHT = {81, 27, 9, 27, 9};

    /** What each pattern comes to. */
    private static final class Rules {
        private final int[] fates = new int[PATTERNS];
        private final int[] goals = new int[PATTERNS];

        Rules() {
            Arrays.fill(goals, NONE);
        }

        static boolean isPattern(int p) {
            return p >= 0 && p < PATTERNS;
        }

        static int sideOf(int p) {
            return p & 1;
        }

        int fateOf(int p) {
            return isPattern(p) ? fates[p] : FREE;
        }

        int goalOf(int p) {
            return isPattern(p) ? goals[p] : NONE;
        }

        int makerOf(int q) {
            for (int p = 0; p < PATTERNS; p++) {
                if (isPattern(q) && goals[p] == q) {
                    return p;
                }
            }
            return NONE;
        }

        void put(int p, int fate, int goal) {
            if (isPattern(p)) {
                fates[p] = fate;
                goals[p] = fate >= BECOMES ? goal : NONE;
            }
        }

        /** A pattern that another one becomes must be free, and made by that one alone. */
        boolean allows(int p, int fate, int goal) {
            if (fate == FREE) {
                return true;
            }
            if (makerOf(p) != NONE) {
                return false;
            }
            if (fate == NOTHING) {
                return true;
            }
            int maker = makerOf(goal);
            return goal != p && fateOf(goal) == FREE && (maker == NONE || maker == p);
        }

        int bound() {
            int bound = 0;
            for (int p = 0; p < PATTERNS; p++) {
                if (fates[p] != FREE) {
                    bound++;
                }
            }
            return bound;
        }

        void release() {
            for (int p = 0; p < PATTERNS; p++) {
                put(p, FREE, NONE);
            }
        }

        int dualFate(int p) {
            int fate = fateOf(p);
            if (fate == FREE) {
                return makerOf(p) == NONE ? NOTHING : FREE;
            }
            if (fate == NOTHING) {
                return FREE;
            }
            if (sideOf(p) != sideOf(goalOf(p))) {
                return fate;
            }
            return fate == BECOMES ? BECOMES_OTHER_SIGN : BECOMES;
        }

        boolean isOwnDual() {
            for (int p = 0; p < PATTERNS; p++) {
                if (dualFate(p) != fates[p]) {
                    return false;
                }
            }
            return true;
        }

        void turnDual() {
            // One after the other is safe: a dual fate looks at other patterns' goals alone, which stay.
            for (int p = 0; p < PATTERNS; p++) {
                fates[p] = dualFate(p);
            }
        }

        void copyFrom(Rules from) {
            for (int p = 0; p < PATTERNS; p++) {
                fates[p] = from.fates[p];
                goals[p] = from.goals[p];
            }
        }
    }

    /** A tree to work on: its figures as it is typed ('.' 0, a 1, b 2), and its sign. */
    private static final class Tree {
        private final int[] figures = new int[MOST_FIGURES];
        // For each figure a number that a walk hands down from a node to its branches.
        private final int[] handed = new int[MOST_FIGURES];
        private int length = 1;
        private int sign = 1;

        void open() {
            length = 0;
            sign = 1;
        }

        void append(int figure) {
            if (length >= 0 && length < MOST_FIGURES) {
                figures[length] = figure;
                length++;
            }
        }

        void becomeLeaf(int signThen) {
            open();
            append(LEAF);
            sign = signThen;
        }

        void becomeNode(int letter) {
            open();
            append(letter + 1);
            append(LEAF);
            append(LEAF);
        }

        void copyFrom(Tree from) {
            open();
            for (int i = 0; i < from.length; i++) {
                append(from.figureAt(i));
            }
            sign = from.sign;
        }

        void readCode(int code, int signThen) {
            open();
            int weight = 1;
            for (int i = 1; i < MOST_FIGURES && weight <= code / 3; i++) {
                weight *= 3;
            }
            for (int i = 0; i < MOST_FIGURES && weight > 0; i++) {
                append(code / weight % 3);
                weight /= 3;
            }
            sign = signThen;
        }

        int codeNow() {
            int code = 0;
            for (int i = 0; i < length; i++) {
                code = 3 * code + figureAt(i);
            }
            return code;
        }

        int figureAt(int at) {
            return at >= 0 && at < length && at < MOST_FIGURES ? figures[at] : LEAF;
        }

        void putFigure(int at, int figure) {
            if (at >= 0 && at < length && at < MOST_FIGURES) {
                figures[at] = figure;
            }
        }

        boolean isNode(int at) {
            return figureAt(at) != LEAF;
        }

        int nodes() {
            return (length - 1) / 2;
        }

        int leaves() {
            return nodes() + 1;
        }

        boolean equalTo(Tree that) {
            return sign == that.sign && codeNow() == that.codeNow();
        }

        /** Where the branch that begins there has ended. */
        int endOf(int start) {
            if (start < 0) {
                return length;
            }
            int missing = 1;
            for (int at = start; at < length && at < MOST_FIGURES; at++) {
                missing += figures[at] == LEAF ? -1 : 1;
                if (missing == 0) {
                    return at + 1;
                }
            }
            return length;
        }

        int leafAt(int number) {
            int seen = 0;
            for (int at = 0; at < length; at++) {
                if (!isNode(at)) {
                    if (seen == number) {
                        return at;
                    }
                    seen++;
                }
            }
            return NONE;
        }

        boolean hasRoomFor(Tree scion) {
            return nodes() + scion.nodes() <= MOST_NODES;
        }

        void graftAt(int leaf, Tree scion) {
            int more = scion.length - 1;
            if (leaf < 0 || leaf >= length || length + more > MOST_FIGURES) {
                return;
            }
            int lengthBefore = length;
            length += more;
            for (int at = lengthBefore - 1; at > leaf; at--) {
                putFigure(at + more, figureAt(at));
            }
            for (int i = 0; i < scion.length; i++) {
                putFigure(leaf + i, scion.figureAt(i));
            }
        }

        // A spot is a node and a side: twice the node's position, and the side.
        // So spots, as they go up, are in the order of places.

        int patternAt(int spot) {
            int node = spot / 2;
            int side = spot & 1;
            int lower = figureAt(node);
            if (spot < 0 || lower == LEAF) {
                return NONE;
            }
            int upper = figureAt(side == LEFT ? node + 1 : endOf(node + 1));
            if (upper == LEAF) {
                return NONE;
            }
            return 4 * (lower - 1) + 2 * (upper - 1) + side;
        }

        /** The spot of place k; NONE. */
        int spotOf(int k, Rules rules) {
            int seen = 0;
            for (int spot = 0; spot < 2 * length; spot++) {
                if (rules.fateOf(patternAt(spot)) != FREE) {
                    if (seen == k) {
                        return spot;
                    }
                    seen++;
                }
            }
            return NONE;
        }

        int places(Rules rules) {
            int seen = 0;
            for (int spot = 0; spot < 2 * length; spot++) {
                if (rules.fateOf(patternAt(spot)) != FREE) {
                    seen++;
                }
            }
            return seen;
        }

        void stepAt(int spot, Rules rules) {
            int p = patternAt(spot);
            int fate = rules.fateOf(p);
            if (fate == NOTHING) {
                becomeLeaf(0);
            } else if (fate != FREE) {
                rebuild(spot, rules.goalOf(p));
                sign = fate == BECOMES_OTHER_SIGN ? -sign : sign;
            }
        }

        /** Left "xyABC", right "xAyBC": the three branches stay, y alone may move past A. */
        private void rebuild(int spot, int goal) {
            int node = spot / 2;
            int side = spot & 1;
            int sideThen = Rules.sideOf(goal);
            int from = side == LEFT ? node + 1 : endOf(node + 1);
            int to = from;
            if (side == LEFT && sideThen == RIGHT) {
                to = endOf(node + 2) - 1;
            } else if (side == RIGHT && sideThen == LEFT) {
                to = node + 1;
            }
            for (int at = from; at < to; at++) {
                putFigure(at, figureAt(at + 1));
            }
            for (int at = from; at > to; at--) {
                putFigure(at, figureAt(at - 1));
            }
            putFigure(node, (goal >> 2 & 1) + 1);
            putFigure(to, (goal >> 1 & 1) + 1);
        }

        /** How many steps it took; NONE, if it has no end (what stands then is of no use). */
        int makePlain(Rules rules) {
            for (int steps = 0; steps <= MOST_STEPS; steps++) {
                int spot = spotOf(0, rules);
                if (spot == NONE) {
                    return steps;
                }
                stepAt(spot, rules);
            }
            return NONE;
        }

        private void handDown(int at, int value) {
            if (at >= 0 && at < MOST_FIGURES) {
                handed[at] = value;
            }
        }

        int height() {
            int highest = 0;
            handDown(0, 1);
            for (int at = 0; at < length && at < MOST_FIGURES; at++) {
                if (isNode(at)) {
                    int here = handed[at];
                    highest = Math.max(highest, here);
                    handDown(at + 1, here + 1);
                    handDown(endOf(at + 1), here + 1);
                }
            }
            return highest;
        }

        /** This becomes the other tree, left for right; it must not be that tree itself. */
        void mirrorOf(Tree that) {
            copyFrom(that);
            handDown(0, 0);
            for (int at = 0; at < that.length && at < MOST_FIGURES; at++) {
                int there = handed[at];
                putFigure(there, that.figureAt(at));
                if (that.isNode(at)) {
                    int right = that.endOf(at + 1);
                    int rightLength = that.endOf(right) - right;
                    handDown(right, there + 1);
                    handDown(at + 1, there + 1 + rightLength);
                }
            }
        }
    }

    /** All that a deed may change: the shelf and the rules. */
    private static final class State {
        private final Rules rules = new Rules();
        private final int[] codes = new int[MOST_TREES];
        private final int[] signs = new int[MOST_TREES];
        private int size = 0;

        boolean has(int t) {
            return t >= 0 && t < size && t < MOST_TREES;
        }

        boolean isFull() {
            return size >= MOST_TREES;
        }

        int codeOf(int t) {
            return has(t) ? codes[t] : 0;
        }

        int signOf(int t) {
            return has(t) ? signs[t] : 0;
        }

        void lend(int t, Tree to) {
            to.readCode(codeOf(t), signOf(t));
        }

        void put(int t, Tree from) {
            if (has(t)) {
                codes[t] = from.codeNow();
                signs[t] = from.sign;
            }
        }

        int add(Tree from) {
            if (isFull()) {
                return FULL;
            }
            size++;
            put(size - 1, from);
            return size - 1;
        }

        void remove(int t) {
            if (!has(t)) {
                return;
            }
            for (int i = t; i + 1 < size && i + 1 < MOST_TREES; i++) {
                codes[i] = codes[i + 1];
                signs[i] = signs[i + 1];
            }
            size--;
        }

        void copyFrom(State from) {
            for (int t = 0; t < MOST_TREES; t++) {
                codes[t] = from.codes[t];
                signs[t] = from.signs[t];
            }
            size = from.size;
            rules.copyFrom(from.rules);
        }
    }

    /** What was ahead of each of the latest deeds, as a ring: the oldest gives way. */
    private static final class History {
        private final State[] ahead = new State[MOST_DEEDS];
        private int next = 0;
        private int size = 0;

        History() {
            for (int i = 0; i < MOST_DEEDS; i++) {
                ahead[i] = new State();
            }
        }

        void forget() {
            size = 0;
        }

        void record(State now) {
            State slot = slotAt(next);
            if (slot != null) {
                slot.copyFrom(now);
            }
            next = (next + 1) % MOST_DEEDS;
            size = Math.min(size + 1, MOST_DEEDS);
        }

        /** The caller has seen that there are so many. */
        void rewind(int deeds, State now) {
            next = Math.floorMod(next - deeds, MOST_DEEDS);
            size = Math.max(size - deeds, 0);
            State slot = slotAt(next);
            if (slot != null) {
                now.copyFrom(slot);
            }
        }

        private State slotAt(int i) {
            return i >= 0 && i < ahead.length ? ahead[i] : null;
        }
    }

    /** Looks at all trees of three nodes. */
    private static final class Judge {
        private final Tree one = new Tree();
        private final Tree two = new Tree();
        private int critical = 0;
        private int bad = 0;
        private int firstBad = NONE;

        void judgeAll(Rules rules) {
            critical = 0;
            bad = 0;
            firstBad = NONE;
            for (int shape = 0; shape < SECOND_WEIGHT.length && shape < THIRD_WEIGHT.length; shape++) {
                for (int letters = 0; letters < 8; letters++) {
                    int first = (letters >> 2 & 1) + 1;
                    int second = (letters >> 1 & 1) + 1;
                    int third = (letters & 1) + 1;
                    judgeOne(first * FIRST_WEIGHT + second * SECOND_WEIGHT[shape] + third * THIRD_WEIGHT[shape], rules);
                }
            }
        }

        private void judgeOne(int code, Rules rules) {
            one.readCode(code, 1);
            if (one.places(rules) != 2) {
                return;
            }
            critical++;
            two.copyFrom(one);
            one.stepAt(one.spotOf(0, rules), rules);
            two.stepAt(two.spotOf(1, rules), rules);
            boolean bothEnd = one.makePlain(rules) != NONE && two.makePlain(rules) != NONE;
            if (!bothEnd || !one.equalTo(two)) {
                bad++;
                firstBad = firstBad == NONE ? code : Math.min(firstBad, code);
            }
        }
    }

    /** How many plain trees there are, and the series that undoes theirs; rows by leaves. */
    private static final class Series {
        private final long[] plainTrees = new long[MOST_LEAVES + 1];
        private final long[][] rooted = new long[LETTERS][MOST_LEAVES + 1];
        private final long[] undoing = new long[MOST_LEAVES + 1];
        private final long[] power = new long[MOST_LEAVES + 1];

        static boolean covers(int n) {
            return n >= 1 && n <= MOST_LEAVES;
        }

        void countTrees(Rules rules) {
            plainTrees[1] = 1;
            for (int n = 2; n <= MOST_LEAVES; n++) {
                plainTrees[n] = 0;
                for (int letter = 0; letter < LETTERS; letter++) {
                    rooted[letter][n] = countRooted(letter, n, rules);
                    plainTrees[n] += rooted[letter][n];
                }
            }
        }

        private long countRooted(int letter, int n, Rules rules) {
            long sum = 0;
            for (int left = 1; left < n; left++) {
                sum += countBranches(letter, LEFT, left, rules) * countBranches(letter, RIGHT, n - left, rules);
            }
            return sum;
        }

        /** How many plain trees of n leaves may be that branch of a node. */
        private long countBranches(int letter, int side, int n, Rules rules) {
            if (n <= 1 || n > MOST_LEAVES) {
                return 1;
            }
            long sum = 0;
            for (int branch = 0; branch < LETTERS; branch++) {
                if (rules.fateOf(4 * letter + 2 * branch + side) == FREE) {
                    sum += rooted[branch][n];
                }
            }
            return sum;
        }

        /** Each next one has to take away what the powers of those ahead of it bring in. */
        void undoTrees() {
            Arrays.fill(undoing, 0);
            undoing[1] = 1;
            for (int n = 2; n <= MOST_LEAVES; n++) {
                System.arraycopy(undoing, 0, power, 0, power.length);
                long sum = 0;
                for (int k = 2; k <= n; k++) {
                    raisePower();
                    sum += plainTrees[k] * power[n];
                }
                undoing[n] = -sum;
            }
        }

        private void raisePower() {
            // From the top down, as each looks at lower ones alone: the series has no term without x.
            for (int n = MOST_LEAVES; n >= 0; n--) {
                long sum = 0;
                for (int i = 1; i <= n; i++) {
                    sum += undoing[i] * power[n - i];
                }
                power[n] = sum;
            }
        }
    }

    private static final class Book {
        private final int[] trees = new int[MOST_ENTRIES];
        private final int[] codes = new int[MOST_ENTRIES];
        private int size = 0;

        boolean isFull() {
            return size >= MOST_ENTRIES;
        }

        void add(int t, int code) {
            if (size >= 0 && size < MOST_ENTRIES) {
                trees[size] = t;
                codes[size] = code;
                size++;
            }
        }

        int firstWrong(State now) {
            for (int i = 0; i < size && i < MOST_ENTRIES; i++) {
                if (!now.has(trees[i]) || now.codeOf(trees[i]) != codes[i]) {
                    return i;
                }
            }
            return NONE;
        }
    }

    private static final class Image {
        private final State state = new State();
        private int seedThen = 0;
        private boolean kept = false;
    }

    private final State now = new State();
    private final History history = new History();
    private final Image[] images = new Image[IMAGES];
    private final Book book = new Book();
    private final Judge judge = new Judge();
    private final Series series = new Series();
    private final Tree work = new Tree();
    private final Tree spare = new Tree();
    private final int[] text = new int[MOST_TEXT];
    private int textLength = 0;
    private int faultPlace = NONE;
    private int seedNow = 0;

    public GraftRules() {
        for (int i = 0; i < IMAGES; i++) {
            images[i] = new Image();
        }
    }

    // ---- trees

    public int feed(int letter) {
        if (letter < 0 || letter > 255) {
            return OUTSIDE;
        }
        if (textLength < 0 || textLength >= MOST_TEXT) {
            return FULL;
        }
        text[textLength] = letter;
        textLength++;
        return textLength;
    }

    public int tell() {
        if (now.isFull()) {
            return FULL;
        }
        int found = readText();
        textLength = 0;
        if (found != NO_FAULT) {
            return -10 - found;
        }
        history.record(now);
        return now.add(work);
    }

    /** The text becomes the tree to work on: which fault it has; its place is kept. */
    private int readText() {
        work.open();
        int missing = 1;
        int nodes = 0;
        for (int i = 0; i < textLength && i < MOST_TEXT; i++) {
            int figure = figureOf(text[i]);
            faultPlace = i;
            if (missing == 0 || figure == NONE) {
                return CANNOT_STAND;
            }
            if (figure == LEAF) {
                missing--;
            } else if (nodes == MOST_NODES) {
                return SEVENTH_NODE;
            } else {
                nodes++;
                missing++;
            }
            work.append(figure);
        }
        faultPlace = missing > 0 ? textLength : NONE;
        return missing > 0 ? CANNOT_STAND : NO_FAULT;
    }

    private static int figureOf(int letter) {
        switch (letter) {
            case '.': return LEAF;
            case 'a': return 1;
            case 'b': return 2;
            default: return NONE;
        }
    }

    public int fault() {
        return faultPlace;
    }

    public int told(int what) {
        if (what >= 2 && what <= 5) {
            judge.judgeAll(now.rules);
        }
        switch (what) {
            case 0: return now.size;
            case 1: return textLength;
            case 2: return judge.critical;
            case 3: return judge.bad;
            case 4: return judge.firstBad;
            case 5: return judge.bad == 0 ? 1 : 0;
            case 6: return now.rules.isOwnDual() ? 1 : 0;
            case 7: return book.size;
            case 8: return book.firstWrong(now);
            case 9: return history.size;
            default: return OUTSIDE;
        }
    }

    public int tree(int t, int what) {
        if (!now.has(t)) {
            return UNKNOWN;
        }
        now.lend(t, work);
        switch (what) {
            case 0: return work.codeNow();
            case 1: return work.sign + 1;
            case 2: return work.nodes();
            case 3: return work.places(now.rules);
            case 4: case 5: case 6: return madePlain(what);
            case 7:
                spare.mirrorOf(work);
                return spare.codeNow();
            case 8: return work.height();
            default: return OUTSIDE;
        }
    }

    private int madePlain(int what) {
        int steps = work.makePlain(now.rules);
        if (steps == NONE) {
            return NONE;
        }
        switch (what) {
            case 4: return steps;
            case 5: return work.codeNow();
            default: return work.sign + 1;
        }
    }

    public int pattern(int p, int what) {
        if (!Rules.isPattern(p)) {
            return UNKNOWN;
        }
        switch (what) {
            case 0: return now.rules.fateOf(p);
            case 1: return now.rules.goalOf(p);
            case 2: return now.rules.makerOf(p);
            default: return OUTSIDE;
        }
    }

    public int same(int t, int u) {
        if (!now.has(t) || !now.has(u)) {
            return UNKNOWN;
        }
        now.lend(t, work);
        now.lend(u, spare);
        if (work.makePlain(now.rules) == NONE || spare.makePlain(now.rules) == NONE) {
            return NONE;
        }
        return work.equalTo(spare) ? 1 : 0;
    }

    public long count(int n) {
        if (!Series.covers(n)) {
            return OUTSIDE;
        }
        series.countTrees(now.rules);
        return series.plainTrees[n];
    }

    public long undoneBy(int n) {
        if (!Series.covers(n)) {
            return OUTSIDE;
        }
        series.countTrees(now.rules);
        series.undoTrees();
        return series.undoing[n];
    }

    // ---- deeds

    public int graft(int t, int i, int u) {
        if (!now.has(t) || !now.has(u)) {
            return UNKNOWN;
        }
        now.lend(t, work);
        now.lend(u, spare);
        int leaf = work.leafAt(i);
        if (leaf == NONE) {
            return UNKNOWN;
        }
        if (now.isFull()) {
            return FULL;
        }
        if (!work.hasRoomFor(spare) || work.sign == 0 || spare.sign == 0) {
            return NOT;
        }
        work.graftAt(leaf, spare);
        work.sign *= spare.sign;
        history.record(now);
        return now.add(work);
    }

    public int step(int t, int k) {
        if (!now.has(t)) {
            return UNKNOWN;
        }
        now.lend(t, work);
        int spot = work.spotOf(k, now.rules);
        if (spot == NONE) {
            return OUTSIDE;
        }
        work.stepAt(spot, now.rules);
        history.record(now);
        now.put(t, work);
        return work.places(now.rules);
    }

    public int plain(int t) {
        if (!now.has(t)) {
            return UNKNOWN;
        }
        now.lend(t, work);
        int steps = work.makePlain(now.rules);
        if (steps == NONE) {
            return NOT;
        }
        history.record(now);
        now.put(t, work);
        return steps;
    }

    public int mirror(int t) {
        if (!now.has(t)) {
            return UNKNOWN;
        }
        now.lend(t, work);
        spare.mirrorOf(work);
        history.record(now);
        now.put(t, spare);
        return now.codeOf(t);
    }

    public int take(int t) {
        if (!now.has(t)) {
            return UNKNOWN;
        }
        history.record(now);
        now.remove(t);
        return now.size;
    }

    public int fate(int p, int v, int q) {
        boolean becomes = v == BECOMES || v == BECOMES_OTHER_SIGN;
        if (!Rules.isPattern(p) || (becomes && !Rules.isPattern(q))) {
            return UNKNOWN;
        }
        if (v < FREE || v > BECOMES_OTHER_SIGN) {
            return OUTSIDE;
        }
        if (!now.rules.allows(p, v, q)) {
            return NOT;
        }
        int before = now.rules.fateOf(p);
        history.record(now);
        now.rules.put(p, v, q);
        return before;
    }

    public int dual() {
        history.record(now);
        now.rules.turnDual();
        judge.judgeAll(now.rules);
        return judge.bad;
    }

    public int clear() {
        int bound = now.rules.bound();
        history.record(now);
        now.rules.release();
        return bound;
    }

    public int drift(int n) {
        if (n < 1 || n > MOST_DRIFT) {
            return OUTSIDE;
        }
        for (int i = 0; i < n && !now.isFull(); i++) {
            drawTree();
            history.record(now);
            now.add(work);
        }
        return now.size;
    }

    private void drawTree() {
        int nodes = draw(MOST_DRAWN_NODES) + 1;
        work.becomeNode(draw(LETTERS));
        for (int i = 1; i < nodes && i < MOST_DRAWN_NODES; i++) {
            int leaf = work.leafAt(draw(work.leaves()));
            spare.becomeNode(draw(LETTERS));
            work.graftAt(leaf, spare);
        }
    }

    private int draw(int n) {
        seedNow = (int) ((seedNow * 1103515245L + 12345L) & 0x7fffffffL);
        return n < 1 ? 0 : (seedNow >> 16) % n;
    }

    public int undo(int n) {
        if (n < 1 || n > MOST_DEEDS) {
            return OUTSIDE;
        }
        if (n > history.size) {
            return NOT;
        }
        history.rewind(n, now);
        return now.size;
    }

    // ---- the book

    public int write(int t, int code) {
        if (!now.has(t)) {
            return UNKNOWN;
        }
        if (book.isFull()) {
            return FULL;
        }
        book.add(t, code);
        return book.size;
    }

    public int tear() {
        int had = book.size;
        book.size = 0;
        return had;
    }

    // ---- images

    public int seed(int v) {
        if (v < 0) {
            return OUTSIDE;
        }
        int before = seedNow;
        seedNow = v;
        return before;
    }

    private Image imageAt(int i) {
        return i >= 0 && i < images.length ? images[i] : null;
    }

    public int keep(int i) {
        Image image = imageAt(i);
        if (image == null) {
            return UNKNOWN;
        }
        image.state.copyFrom(now);
        image.seedThen = seedNow;
        image.kept = true;
        history.forget();
        return 1;
    }

    public int goBack(int i) {
        Image image = imageAt(i);
        if (image == null) {
            return UNKNOWN;
        }
        if (!image.kept) {
            return NOT;
        }
        now.copyFrom(image.state);
        seedNow = image.seedThen;
        history.forget();
        return 1;
    }
}
