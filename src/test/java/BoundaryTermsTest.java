import java.math.BigInteger;

/** The boundary cases that the document's Terms name, each sentence with a test of its own. */
public final class BoundaryTermsTest extends Bench {
    private static final Due DUE = new Due();

    public static void main(String[] args) {
        numbersFromNoughtOn();
        refusalsFarBelow();
        partOne();
        shelfAndPatterns();
        partTwo();
        partThree();
        DUE.end("BoundaryTermsTest");
    }

    private static void of(String sentence) {
        DUE.of("Terms: " + sentence);
    }

    private static void is(String what, long got, long want) {
        DUE.is(what, got, want);
    }

    private static void numbersFromNoughtOn() {
        of("What has a number has it from 0 on");
        GraftRules x = new GraftRules();
        is("the first tree", type(x, "a.b.."), 0);
        is("the first leaf", x.graft(0, 0, 0), 1);
        is("grafted on the first leaf", x.tree(1, 0), code("aa.b..b.."));
        is("the first pattern", x.fate(0, 2, 1), 0);
        is("the first place", x.step(1, 0), 0);
        is("the first image", x.keep(0), 1);
        is("the first entry", x.write(0, 1), 1);
        is("the first entry is wrong", x.told(8), 0);
        is("the first letter", type(x, "?"), -11);
        is("its place", x.fault(), 0);
    }

    private static void refusalsFarBelow() {
        of("They are far below all that is counted: -1000000001 and on");
        is("UNKNOWN", GraftRules.UNKNOWN, -1000000001);
        is("OUTSIDE", GraftRules.OUTSIDE, -1000000002);
        is("NOT", GraftRules.NOT, -1000000003);
        is("FULL", GraftRules.FULL, -1000000004);
        of("NONE is -1");
        is("NONE", GraftRules.NONE, -1);
    }

    // ---- part 1

    private static void partOne() {
        sixNodesAtMost();
        oneLeafMore();
        leavesFromTheLeft();
        firstFault();
        endAtTheTextsLength();
        anotherLetter();
        behindTheEnd();
        endAheadOfTheTreesEnd();
        seventhNode();
        lowestAndHighestCode();
        nothingIsALeaf();
    }

    private static void sixNodesAtMost() {
        of("It has 6 NODES at most");
        for (int nodes = 0; nodes <= 6; nodes++) {
            GraftRules x = new GraftRules();
            is("typed with " + nodes, type(x, comb('b', nodes)), 0);
            is("its nodes", x.tree(0, 2), nodes);
        }
        is("typed with 7", type(new GraftRules(), comb('b', 7)), -12);
        GraftRules y = with("aaaaa......", "b..", "bb...");
        is("5 and 1 grafted", y.graft(0, 0, 1), 3);
        is("they are 6", y.tree(3, 2), 6);
        is("5 and 2 grafted", y.graft(0, 0, 2), NOT);
        is("6 and 1 grafted", y.graft(3, 0, 1), NOT);
        is("1 and 6 grafted", y.graft(1, 0, 3), NOT);
    }

    private static void oneLeafMore() {
        of("and one LEAF more");
        for (int nodes = 0; nodes <= 6; nodes++) {
            GraftRules x = with(comb('a', nodes), ".");
            is("the last leaf of " + nodes, x.graft(0, nodes, 1), 2);
            is("one more than that", x.graft(0, nodes + 1, 1), UNKNOWN);
            is("one less than the first", x.graft(0, -1, 1), UNKNOWN);
        }
    }

    private static void leavesFromTheLeft() {
        of("LEAVES are numbered from the left");
        String[] grafted = {"aab...b..", "aa.b..b..", "aa..bb...", "aa..b.b.."};
        for (int i = 0; i < grafted.length; i++) {
            GraftRules x = with("aa..b..", "b..");
            x.graft(0, i, 1);
            is("leaf " + i, x.tree(2, 0), code(grafted[i]));
        }
    }

    private static void faulty(String typed, int answer, int place) {
        GraftRules x = new GraftRules();
        is("tell of \"" + typed + "\"", type(x, typed), answer);
        is("fault of \"" + typed + "\"", x.fault(), place);
        is("trees behind \"" + typed + "\"", x.told(0), 0);
    }

    private static void firstFault() {
        of("FAULTS, at the first letter that has one");
        faulty("?!", -11, 0);
        faulty("a?!.", -11, 1);
        faulty("aaaaaaa?", -12, 6);
        faulty("aaaaaa?a", -11, 6);
        faulty("a..?a", -11, 3);
        faulty("?aaaaaaa", -11, 0);
        faulty("aaaaaaaaa", -12, 6);
    }

    private static void endAtTheTextsLength() {
        of("the end at the text's length");
        faulty("", -11, 0);
        faulty("b", -11, 1);
        faulty("aaaaaa......", -11, 12);
    }

    private static void anotherLetter() {
        of("1 it cannot stand there (another letter)");
        for (int letter = 0; letter <= 255; letter++) {
            boolean stands = letter == '.' || letter == 'a' || letter == 'b';
            GraftRules x = new GraftRules();
            x.feed(letter);
            x.feed('.');
            x.feed('.');
            int answer = x.tell();
            is("letter " + letter + " first", answer, letter == 'a' || letter == 'b' ? 0 : -11);
            is("letter " + letter + " first: place", x.fault(), letter == '.' ? 1 : stands ? NONE : 0);
            GraftRules y = with();
            y.feed('a');
            y.feed('.');
            y.feed(letter);
            y.tell();
            is("letter " + letter + " last: place", y.fault(), letter == '.' ? NONE : stands ? 3 : 2);
        }
    }

    private static void behindTheEnd() {
        of("1 it cannot stand there (anything behind the end of the TREE)");
        for (String more : new String[] {".", "a", "b", "?", "\0", "\u00ff", "a.."}) {
            faulty("." + more, -11, 1);
            faulty("b.a.." + more, -11, 5);
            faulty("bbbbbb......." + more, -11, 13);
        }
        faulty(".".repeat(30), -11, 1);
    }

    private static void endAheadOfTheTreesEnd() {
        of("1 it cannot stand there (the end ahead of that)");
        faulty("", -11, 0);
        faulty("a", -11, 1);
        faulty("a.", -11, 2);
        faulty("ab..", -11, 4);
        faulty("b.a.", -11, 4);
        faulty("aaaaaa", -11, 6);
        is("the end at the end", type(new GraftRules(), "ab..."), 0);
    }

    private static void seventhNode() {
        of("2 a seventh NODE");
        faulty("aaaaaaa", -12, 6);
        faulty("bbbbbbb........", -12, 6);
        faulty("aaaaaa......b", -12, 12);
        faulty("a.a.a.a.a.a.a..", -12, 12);
        faulty("a".repeat(30), -12, 6);
        is("a sixth", type(new GraftRules(), "a.a.a.a.a.a.."), 0);
    }

    private static void lowestAndHighestCode() {
        of("CODE: the letters TYPED as figures of 3, the first the highest, as one number");
        GraftRules x = with(".", "a..", "b..", "bbbbbb.......", "a.a.a.a.a.a..", "b.b.b.b.b.b..");
        is("the lowest", x.tree(0, 0), 0);
        is("a", x.tree(1, 0), 9);
        is("b", x.tree(2, 0), 18);
        is("the highest", x.tree(3, 0), 728 * 2187);
        is("the lowest of six nodes", x.tree(4, 0), 597870);
        is("the highest, mirrored", x.tree(3, 7), x.tree(5, 0));
    }

    private static void nothingIsALeaf() {
        of("SIGN: 0 (it is NOTHING: its TREE is a leaf then)");
        GraftRules x = with("bbbbbb.......");
        x.fate(6, 1, 0);
        x.step(0, 4);
        int[] asked = {0, 1, 0, 0, 0, 0, 1, 0, 0};
        for (int what = 0; what < asked.length; what++) {
            is("nothing, asked " + what, x.tree(0, what), asked[what]);
        }
        is("same as itself", x.same(0, 0), 1);
    }

    // ---- part 1, the shelf and the patterns

    private static void shelfAndPatterns() {
        eightTreesAtMost();
        signOneAtFirst();
        oneNumberLess();
        patternsNoughtToSeven();
        madeOnesAreFree();
    }

    private static void eightTreesAtMost() {
        of("THE SHELF holds TREES (8 at most)");
        GraftRules x = new GraftRules();
        for (int t = 0; t < 8; t++) {
            is("tree " + t, type(x, "."), t);
        }
        is("the ninth, told", type(x, "."), FULL);
        is("the ninth, grafted", x.graft(0, 0, 0), FULL);
        is("the ninth, drawn", x.drift(1), 8);
        is("there are 8", x.told(0), 8);
        is("tree 7", x.tree(7, 0), 0);
        is("tree 8", x.tree(8, 0), UNKNOWN);
    }

    private static void signOneAtFirst() {
        of("each with a SIGN (1 at first)");
        GraftRules x = with("aa...", "aa...");
        x.fate(0, 3, 1);
        x.plain(0);
        x.fate(0, 1, 1);
        x.plain(1);
        is("told behind a sign of 0", type(x, "a.."), 2);
        is("its sign", x.tree(2, 1), 2);
        x.tree(0, 1);
        is("drawn behind a sign of -1", x.drift(1), 4);
        is("its sign", x.tree(3, 1), 2);
    }

    private static void oneNumberLess() {
        of("if one goes, later ones have one number less");
        for (int gone = 0; gone < 8; gone++) {
            GraftRules x = new GraftRules();
            for (int t = 0; t < 8; t++) {
                type(x, comb(t < 4 ? 'a' : 'b', 1 + t % 4));
            }
            int[] before = new int[8];
            for (int t = 0; t < 8; t++) {
                before[t] = x.tree(t, 0);
            }
            is("left", x.take(gone), 7);
            for (int t = 0; t < 7; t++) {
                is(gone + " gone: tree " + t, x.tree(t, 0), before[t < gone ? t : t + 1]);
            }
            is(gone + " gone: tree 7", x.tree(7, 0), UNKNOWN);
        }
    }

    private static void patternsNoughtToSeven() {
        of("PATTERNS 0 .. 7: 4 times the letter of a NODE, 2 times that of its branch, and 1, if that is the RIGHT one");
        String[] trees = {"aa...", "a.a..", "ab...", "a.b..", "ba...", "b.a..", "bb...", "b.b.."};
        for (int p = 0; p < 8; p++) {
            GraftRules x = with(trees);
            x.fate(p, 1, 0);
            for (int t = 0; t < 8; t++) {
                is("places of " + trees[t] + " by pattern " + p, x.tree(t, 3), t == p ? 1 : 0);
            }
        }
        is("pattern -1", new GraftRules().pattern(-1, 0), UNKNOWN);
        is("pattern 8", new GraftRules().pattern(8, 0), UNKNOWN);
    }

    private static void madeOnesAreFree() {
        of("A PATTERN that another one becomes is free itself, and no other becomes it");
        for (int v = 2; v <= 3; v++) {
            GraftRules x = new GraftRules();
            x.fate(0, v, 7);
            for (int p = 1; p < 7; p++) {
                is("another one becomes 7: " + p, x.fate(p, v, 7), NOT);
            }
            is("7 is nothing", x.fate(7, 1, 0), NOT);
            is("7 becomes 1", x.fate(7, v, 1), NOT);
            is("7 is free", x.pattern(7, 0), 0);
            is("0 becomes it", x.pattern(7, 2), 0);
            is("dual", x.dual() >= 0 ? 1 : 0, 1);
            is("7 is free in the dual, too", x.pattern(7, 0), 0);
        }
    }

    // ---- part 2

    private static void partTwo() {
        leftOneFirst();
        otherSignTwice();
        allIsNothing();
        sixtySteps();
        twoPlaces();
        badOnes();
        countOneToSeven();
        undoneByOneToSeven();
        dualOfNoneAndOfAll();
        dualOfTheDual();
    }

    private static void leftOneFirst() {
        of("PLACES in the order of NODES as they are TYPED, of each the LEFT one first");
        // Each of the six nodes but the first hangs on a place; a step there turns its letter to a.
        String six = "bb.b..bb..b..";
        String[] stepped = {"ba.b..bb..b..", "bb.b..ab..b..", "bb.a..bb..b..", "bb.b..ba..b..", "bb.b..bb..a.."};
        for (int k = 0; k < stepped.length; k++) {
            GraftRules x = with(six);
            x.fate(6, 2, 4);
            x.fate(7, 2, 5);
            is("places", x.tree(0, 3), 5);
            x.step(0, k);
            is("stepped at " + k, x.tree(0, 0), code(stepped[k]));
        }
    }

    private static void otherSignTwice() {
        of("by FATE 3 the SIGN is the other");
        GraftRules x = with("aaa....");
        x.fate(0, 3, 6);
        x.fate(2, 3, 7);
        x.step(0, 1);
        is("1 is -1 then", x.tree(0, 1), 0);
        x.step(0, 0);
        is("-1 is 1 then", x.tree(0, 1), 2);
    }

    private static void allIsNothing() {
        of("or all is NOTHING");
        GraftRules x = with("b.b.b.b.ba...");
        x.fate(4, 1, 0);
        is("stepped at the place farthest up", x.step(0, 0), 0);
        is("sign", x.tree(0, 1), 1);
        is("code", x.tree(0, 0), 0);
    }

    private static void sixtySteps() {
        of("if it is not PLAIN behind 60 STEPS, it has no END");
        GraftRules x = longWays("baa...b.a..", "aaa...b.a..", "baa...a.a..");
        int[] steps = {59, 60, NONE};
        for (int t = 0; t < 3; t++) {
            is("steps of " + t, x.tree(t, 4), steps[t]);
            DUE.isTrue("code made plain of " + t, x.tree(t, 5) == NONE == (t == 2));
            DUE.isTrue("sign made plain of " + t, x.tree(t, 6) == NONE == (t == 2));
            is("same as itself: " + t, x.same(t, t), t == 2 ? NONE : 1);
        }
        int made = x.tree(1, 5);
        is("plain of 60", x.plain(1), 60);
        is("it is as asked ahead", x.tree(1, 0), made);
        is("it has no place", x.tree(1, 3), 0);
        is("plain of 61", x.plain(2), NOT);
        GraftRules y = with("a.aa...");
        y.fate(1, 2, 3);
        y.fate(4, 2, 0);
        is("round and round: steps", y.tree(0, 4), NONE);
        is("round and round: plain", y.plain(0), NOT);
    }

    private static void twoPlaces() {
        of("CRITICAL: a TREE of three NODES with two PLACES");
        GraftRules x = new GraftRules();
        is("no rules: none", x.told(2), 0);
        x.fate(2, 1, 0);
        is("a on b: no tree has it twice", x.told(2), 0);
        x.fate(0, 1, 0);
        is("and a on a: aaa.... and aab....", x.told(2), 2);
        for (int p = 0; p < 8; p++) {
            x.fate(p, 1, 0);
        }
        is("all rules: all 40", x.told(2), 40);
    }

    private static void badOnes() {
        of("BAD: a CRITICAL one of which some two PLACES, STEPPED there first and then MADE PLAIN, do not come to the same");
        GraftRules x = new GraftRules();
        x.fate(0, 2, 1);
        is("the same tree and sign", x.told(3), 0);
        x.fate(0, 3, 1);
        is("the same tree, the other sign", x.told(3), 1);
        x.clear();
        x.fate(0, 2, 4);
        is("another tree: aaa.... to baa.... and to aba....", x.told(3), 1);
        x.clear();
        x.fate(0, 1, 0);
        is("nothing and nothing", x.told(3), 0);
        x.fate(2, 2, 7);
        // aab....: its first place makes all nothing; from the second comes ab.b..., which is plain.
        is("nothing and a tree", x.told(3), 1);
        is("that tree", x.told(4), code("aab...."));
        of("SOUND: none is BAD");
        is("one is bad", x.told(5), 0);
        x.undo(1);
        is("none is bad", x.told(5), 1);
    }

    private static void countOneToSeven() {
        of("COUNT of n (1 .. 7 LEAVES)");
        GraftRules x = new GraftRules();
        long[] all = {1, 2, 8, 40, 224, 1344, 8448};
        for (int n = 1; n <= 7; n++) {
            is("all trees of " + n, x.count(n), all[n - 1]);
        }
        is("of 0", x.count(0), OUTSIDE);
        is("of 8", x.count(8), OUTSIDE);
        x.dual();
        for (int n = 1; n <= 7; n++) {
            is("when two nodes are nothing, of " + n, x.count(n), n <= 2 ? n : 0);
        }
    }

    private static void undoneByOneToSeven() {
        of("UNDONE BY: the series g, g 1 is 1, up to x to the 7");
        GraftRules x = new GraftRules();
        is("g 1", x.undoneBy(1), 1);
        is("g 7 of all trees", x.undoneBy(7), 0);
        is("g 0", x.undoneBy(0), OUTSIDE);
        is("g 8", x.undoneBy(8), OUTSIDE);
        x.dual();
        long[] undoing = {1, -2, 8, -40, 224, -1344, 8448};
        for (int n = 1; n <= 7; n++) {
            is("when two nodes are nothing, g " + n, x.undoneBy(n), undoing[n - 1]);
        }
    }

    private static void dualOfNoneAndOfAll() {
        of("DUAL: free ones that no PATTERN becomes are NOTHING, those of NOTHING free");
        GraftRules x = new GraftRules();
        is("bad ones of the dual of no rules", x.dual(), 0);
        for (int p = 0; p < 8; p++) {
            is("all are nothing: " + p, x.pattern(p, 0), 1);
        }
        is("bad ones of the dual of that", x.dual(), 0);
        for (int p = 0; p < 8; p++) {
            is("all are free: " + p, x.pattern(p, 0), 0);
        }
    }

    private static void dualOfTheDual() {
        of("a PATTERN that becomes another one still does, with the other sign if both are LEFT ones or both are RIGHT ones");
        int[][] rules = {{0, 4}, {1, 5}, {2, 7}, {3, 6}};
        for (int v = 2; v <= 3; v++) {
            GraftRules x = new GraftRules();
            for (int[] rule : rules) {
                x.fate(rule[0], v, rule[1]);
            }
            x.dual();
            for (int[] rule : rules) {
                boolean oneSide = rule[0] % 2 == rule[1] % 2;
                is("dual: fate of " + rule[0], x.pattern(rule[0], 0), oneSide ? 5 - v : v);
                is("dual: goal of " + rule[0], x.pattern(rule[0], 1), rule[1]);
                is("dual: the goal is free", x.pattern(rule[1], 0), 0);
            }
            x.dual();
            for (int[] rule : rules) {
                is("dual of the dual: fate of " + rule[0], x.pattern(rule[0], 0), v);
            }
        }
    }

    // ---- part 3

    private static void partThree() {
        sameHasNoEnd();
        twentyEntriesAtMost();
        firstOtherwise();
        treeNoMore();
        noneIsWrong();
        seedIsNoughtAtFirst();
        seedWrapsAround();
        oneToFiveNodes();
        whileThereIsRoom();
        sinceTheImage();
        twentyAreKept();
        seedStays();
        twoImages();
        fiveHundredAndTwelveCalls();
    }

    private static void sameHasNoEnd() {
        of("SAME: NONE: one has no END");
        GraftRules x = longWays("baa...a.a..", "a..", "baa...a.a..");
        is("the first", x.same(0, 1), NONE);
        is("the second", x.same(1, 0), NONE);
        is("both", x.same(0, 2), NONE);
        is("it and itself", x.same(0, 0), NONE);
        is("neither", x.same(1, 1), 1);
    }

    private static void twentyEntriesAtMost() {
        of("THE BOOK (20 at most)");
        GraftRules x = with("a..");
        for (int i = 1; i <= 20; i++) {
            is("entry", x.write(0, i == 20 ? 8 : 9), i);
        }
        is("one more", x.write(0, 9), FULL);
        is("entries", x.told(7), 20);
        is("the last one counts", x.told(8), 19);
    }

    private static void firstOtherwise() {
        of("WRONG: the first that is otherwise now");
        GraftRules x = with("aa...", "b..");
        x.write(1, 18);
        x.write(0, code("aa..."));
        x.write(0, code("a.a.."));
        x.write(1, 19);
        is("of two, the first", x.told(8), 2);
        x.mirror(0);
        is("now an earlier one is", x.told(8), 1);
        x.take(0);
        is("now the first of all is, as numbers are one less", x.told(8), 0);
    }

    private static void treeNoMore() {
        of("a TREE that there is no more: it is, too");
        GraftRules x = with("a..", ".");
        x.write(0, 9);
        x.write(1, 0);
        is("both are there", x.told(8), NONE);
        x.take(1);
        is("the second is no more", x.told(8), 1);
        x.take(0);
        is("nor is the first", x.told(8), 0);
        x.undo(2);
        is("both are back", x.told(8), NONE);
        GraftRules y = with(".", ".");
        y.write(0, 0);
        y.write(1, 0);
        y.take(0);
        is("a leaf's code is not that of no tree", y.told(8), 1);
    }

    private static void noneIsWrong() {
        of("WRONG: NONE");
        GraftRules x = new GraftRules();
        is("an empty book", x.told(8), NONE);
        type(x, "b..");
        x.write(0, 18);
        is("a right entry", x.told(8), NONE);
        x.write(0, 17);
        x.tear();
        is("a torn book", x.told(8), NONE);
    }

    private static void seedIsNoughtAtFirst() {
        of("THE SEED (0 at first)");
        is("seed", new GraftRules().seed(1), 0);
        GraftRules x = new GraftRules();
        GraftRules y = new GraftRules();
        y.seed(0);
        x.drift(4);
        y.drift(4);
        DUE.isText("drawn from it", shelfAndFates(x), shelfAndFates(y));
    }

    private static final BigInteger FACTOR = BigInteger.valueOf(1103515245);
    private static final BigInteger MORE = BigInteger.valueOf(12345);
    private static final BigInteger WRAP = BigInteger.ONE.shiftLeft(31);

    private static int next(int seed) {
        return BigInteger.valueOf(seed).multiply(FACTOR).add(MORE).mod(WRAP).intValueExact();
    }

    private static int before(int seed) {
        return BigInteger.valueOf(seed).subtract(MORE).multiply(FACTOR.modInverse(WRAP)).mod(WRAP).intValueExact();
    }

    private static int drawnSeed;

    private static int draw(int n) {
        drawnSeed = next(drawnSeed);
        return drawnSeed / 65536 % n;
    }

    /** The tree that is due from a seed, typed; what the seed is then is left in drawnSeed. */
    private static String drawn(int seed) {
        drawnSeed = seed;
        int nodes = draw(5) + 1;
        String typed = "ab".charAt(draw(2)) + "..";
        for (int i = 1; i < nodes; i++) {
            int leaf = draw(i + 1);
            int at = typed.indexOf('.');
            for (int k = 0; k < leaf; k++) {
                at = typed.indexOf('.', at + 1);
            }
            typed = typed.substring(0, at) + "ab".charAt(draw(2)) + ".." + typed.substring(at + 1);
        }
        return typed;
    }

    private static void seedWrapsAround() {
        of("THE SEED becomes it times 1103515245 and 12345, left over by 2 to the 31");
        int[] seeds = {0, 1, 2, 65535, 65536, 1 << 30, HIGH - 1, HIGH, before(0), before(HIGH), before(65535),
            before(65536), before(before(0)), before(before(HIGH))};
        for (int seed : seeds) {
            GraftRules x = new GraftRules();
            x.seed(seed);
            is("drawn from " + seed, x.drift(1), 1);
            is("the tree from " + seed, x.tree(0, 0), code(drawn(seed)));
            is("the seed behind " + seed, x.seed(0), drawnSeed);
        }
        is("a seed of 0 comes from", next(before(0)), 0);
        is("the highest seed comes from", next(before(HIGH)), HIGH);
    }

    private static void oneToFiveNodes() {
        of("a DRAW of 5, and 1: so many NODES");
        // The first draw is the highest figure of the seed: 0 .. 4 of 5, as that seed is put ahead of the first.
        for (int nodes = 1; nodes <= 5; nodes++) {
            GraftRules x = new GraftRules();
            x.seed(before((nodes - 1) * 65536));
            x.drift(1);
            is("nodes", x.tree(0, 2), nodes);
            GraftRules y = new GraftRules();
            y.seed(before((5 * 6553 + nodes - 6) * 65536 + 65535));
            y.drift(1);
            is("nodes, from a high seed", y.tree(0, 2), nodes);
        }
    }

    private static void whileThereIsRoom() {
        of("n times, while there is room");
        for (int there = 0; there <= 8; there++) {
            GraftRules x = new GraftRules();
            for (int t = 0; t < there; t++) {
                type(x, ".");
            }
            x.seed(5);
            drawnSeed = 5;
            is("trees, with " + there + " there", x.drift(8), 8);
            for (int t = there; t < 8; t++) {
                is("tree " + t + " with " + there + " there", x.tree(t, 0), code(drawn(drawnSeed)));
            }
            is("no draw without room", x.seed(0), drawnSeed);
            is("no deed without room", x.told(9), 8);
        }
    }

    private static void sinceTheImage() {
        of("UNDONE: the latest deeds since the IMAGE");
        GraftRules x = with("a..", "b..");
        x.keep(0);
        is("behind keep()", x.told(9), 0);
        is("behind keep(), undone", x.undo(1), NOT);
        type(x, ".");
        is("one since", x.told(9), 1);
        is("two undone", x.undo(2), NOT);
        x.goBack(0);
        is("behind goBack()", x.told(9), 0);
        is("behind goBack(), undone", x.undo(1), NOT);
        is("the trees of the image", x.told(0), 2);
    }

    private static void twentyAreKept() {
        of("UNDONE: 20 at most are kept");
        GraftRules x = with("ab...");
        for (int deeds = 2; deeds <= 64; deeds++) {
            x.mirror(0);
            is("deeds", x.told(9), Math.min(deeds, 20));
        }
        x.take(0);
        is("undone, one", x.undo(1), 1);
        is("undone, nineteen", x.undo(19), 1);
        is("it is as it was ahead of them", x.tree(0, 0), code("ab..."));
        is("none is left", x.undo(1), NOT);
        GraftRules y = new GraftRules();
        y.fate(5, 1, 0);
        for (int i = 0; i < 19; i++) {
            y.clear();
        }
        is("twenty", y.undo(20), 0);
        is("the first of the twenty is undone", y.pattern(5, 0), 0);
        GraftRules z = new GraftRules();
        z.fate(5, 1, 0);
        for (int i = 0; i < 20; i++) {
            z.fate(4, 1, 0);
        }
        is("twenty of twenty-one", z.undo(20), 0);
        is("the first of twenty-one is not undone", z.pattern(5, 0), 1);
    }

    private static void seedStays() {
        of("UNDONE: THE SEED stays");
        GraftRules x = new GraftRules();
        x.drift(1);
        int seed = seedOf(x);
        x.undo(1);
        is("the seed behind undo()", seedOf(x), seed);
        x.drift(1);
        is("another tree is drawn", x.tree(0, 0), code(drawn(seed)));
    }

    private static void twoImages() {
        of("IMAGES 0, 1 keep THE SHELF, FATES, THE SEED");
        GraftRules x = new GraftRules();
        is("keep 0", x.keep(0), 1);
        x.drift(8);
        x.fate(0, 3, 1);
        int seed = seedOf(x);
        is("keep 1", x.keep(1), 1);
        String full = shelfAndFates(x);
        is("goBack 0", x.goBack(0), 1);
        is("an empty shelf", x.told(0), 0);
        is("a free pattern", x.pattern(0, 0), 0);
        is("its seed", seedOf(x), 0);
        is("goBack 1", x.goBack(1), 1);
        DUE.isText("the full one", shelfAndFates(x), full);
        is("its seed", seedOf(x), seed);
        is("image 2", x.keep(2), UNKNOWN);
        is("image -1", x.keep(-1), UNKNOWN);
    }

    private static void fiveHundredAndTwelveCalls() {
        DUE.of("What it is: An object is used for at most 512 calls");
        GraftRules x = new GraftRules();
        int calls = 0;
        while (calls < 5) {
            x.feed("ab...".charAt(calls));
            calls++;
        }
        x.tell();
        calls++;
        while (calls < 511) {
            x.mirror(0);
            calls++;
        }
        is("the last call", x.mirror(0), code("ab..."));
    }
}
