/** The boundary cases that promises 1 to 10 name, each sentence with a test of its own. */
public final class BoundaryTreesTest extends Bench {
    private static final Due DUE = new Due();

    public static void main(String[] args) {
        newObject();
        feed();
        tell();
        fault();
        told();
        toldAtItsEnds();
        tree();
        pattern();
        same();
        series();
        DUE.end("BoundaryTreesTest");
    }

    private static void of(String sentence) {
        DUE.of("Promise " + sentence);
    }

    private static void is(String what, long got, long want) {
        DUE.is(what, got, want);
    }

    // ---- promise 1

    private static void newObject() {
        of("1: No TREES");
        GraftRules x = new GraftRules();
        is("trees", x.told(0), 0);
        is("tree 0", x.tree(0, 0), UNKNOWN);
        is("take 0", x.take(0), UNKNOWN);
        of("1: all FATES free");
        GraftRules y = new GraftRules();
        for (int p = 0; p < 8; p++) {
            is("fate of " + p, y.pattern(p, 0), 0);
            is("goal of " + p, y.pattern(p, 1), NONE);
            is("maker of " + p, y.pattern(p, 2), NONE);
        }
        is("none is to be cleared", y.clear(), 0);
        twoObjects();
    }

    private static void twoObjects() {
        of("1: A new object, beside one that is used");
        GraftRules x = new GraftRules();
        x.drift(8);
        x.dual();
        feedAll(x, "ab");
        x.write(0, 1);
        x.keep(0);
        GraftRules y = new GraftRules();
        DUE.isText("another object", picture(y), picture(new GraftRules()));
        is("its image", y.goBack(0), NOT);
        is("its seed", y.seed(0), 0);
    }

    // ---- promise 2

    private static void feed() {
        of("2: A letter (0 .. 255)");
        GraftRules x = new GraftRules();
        is("0", x.feed(0), 1);
        is("255", x.feed(255), 2);
        of("2: OUTSIDE");
        is("-1", x.feed(-1), OUTSIDE);
        is("256", x.feed(256), OUTSIDE);
        is("lowest", x.feed(LOW), OUTSIDE);
        is("highest", x.feed(HIGH), OUTSIDE);
        is("as a letter, 256 more", x.feed('a' + 256), OUTSIDE);
        is("letters", x.told(1), 2);
        of("2: FULL (30)");
        for (int i = 3; i <= 30; i++) {
            is("letter " + i, x.feed('a'), i);
        }
        is("one more", x.feed('a'), FULL);
        is("letters", x.told(1), 30);
        x.tell();
        is("behind tell() there is room", x.feed('a'), 1);
        of("2: how many it has");
        GraftRules y = new GraftRules();
        for (int i = 1; i <= 30; i++) {
            is("it has", y.feed(i), i);
            is("told", y.told(1), i);
        }
    }

    // ---- promise 3

    private static void tell() {
        tellEmpties();
        tellNumbers();
        tellFaults();
        tellFull();
        tellFullTextStays();
        tellFullAheadOfFaults();
        tellFullEmptyText();
    }

    private static void tellEmpties() {
        of("3: THE TEXT (it is empty then, with a FAULT, too)");
        GraftRules x = new GraftRules();
        type(x, "a..");
        is("without a fault", x.told(1), 0);
        type(x, "a.?");
        is("with fault 1", x.told(1), 0);
        type(x, "aaaaaaa");
        is("with fault 2", x.told(1), 0);
        type(x, "?".repeat(30));
        is("a full one", x.told(1), 0);
        is("nothing of it is left", type(x, "."), 1);
    }

    private static void tellNumbers() {
        of("3: its number");
        GraftRules x = new GraftRules();
        for (int t = 0; t < 8; t++) {
            is("number", type(x, "."), t);
        }
        x.take(3);
        is("number behind one that went", type(x, "b.."), 7);
    }

    private static void tellFaults() {
        of("3: -10 less the number of its FAULT");
        GraftRules x = new GraftRules();
        is("an empty text", x.tell(), -11);
        is("fault 1", type(x, "a"), -11);
        is("fault 2", type(x, "aaaaaaa"), -12);
        is("no tree comes", x.told(0), 0);
        is("no deed", x.told(9), 0);
    }

    private static GraftRules eight() {
        return with(".", ".", ".", ".", ".", ".", ".", ".");
    }

    private static void tellFull() {
        of("3: FULL (8)");
        GraftRules x = with(".", ".", ".", ".", ".", ".", ".");
        is("the eighth", type(x, "a.."), 7);
        is("the ninth", type(x, "b.."), FULL);
        is("trees", x.told(0), 8);
        is("no deed", x.told(9), 8);
        x.take(0);
        is("behind take() there is room", x.tell(), 7);
    }

    private static void tellFullTextStays() {
        of("3: FULL (THE TEXT stays)");
        GraftRules x = eight();
        feedAll(x, "ba...");
        is("full", x.tell(), FULL);
        is("letters", x.told(1), 5);
        is("full again", x.tell(), FULL);
        x.take(7);
        is("told now", x.tell(), 7);
        is("as it was typed", x.tree(7, 0), code("ba..."));
    }

    private static void tellFullAheadOfFaults() {
        of("3: FULL (ahead of FAULTS)");
        GraftRules x = eight();
        is("a text with fault 1", type(x, "?"), FULL);
        is("letters", x.told(1), 1);
        x.take(0);
        x.tell();
        type(x, ".");
        is("a text with fault 2", type(x, "aaaaaaa"), FULL);
        is("letters", x.told(1), 7);
    }

    private static void tellFullEmptyText() {
        of("3: FULL (ahead of FAULTS), of an empty text");
        GraftRules x = eight();
        is("an empty text", x.tell(), FULL);
        is("no fault", x.fault(), NONE);
    }

    // ---- promise 4

    private static void fault() {
        of("4: NONE");
        GraftRules x = new GraftRules();
        is("at first", x.fault(), NONE);
        type(x, "?");
        type(x, "a..");
        is("behind a tree without one", x.fault(), NONE);
        of("4: The place (from 0 on)");
        type(x, "?");
        is("the first letter", x.fault(), 0);
        type(x, "aaaaaa.......?");
        is("the last place that a fault can have", x.fault(), 13);
        type(x, "aaaaaa......");
        is("the end", x.fault(), 12);
        of("4: of the latest tell()");
        type(x, "a?");
        type(x, "ab?");
        is("of the second", x.fault(), 2);
        feedAll(x, "?");
        is("a text that is not told yet", x.fault(), 2);
        of("4: that was not FULL");
        GraftRules y = new GraftRules();
        type(y, "aa?");
        y.drift(8);
        is("full", type(y, "?"), FULL);
        is("the one ahead of it", y.fault(), 2);
        GraftRules z = eight();
        is("full", type(z, "?"), FULL);
        is("there is none", z.fault(), NONE);
        faultStays();
    }

    private static void faultStays() {
        of("4: it is no part of what is undone or kept");
        GraftRules x = with("a..");
        x.keep(0);
        type(x, "b..");
        type(x, "a?");
        x.undo(1);
        is("behind undo()", x.fault(), 1);
        x.goBack(0);
        is("behind goBack()", x.fault(), 1);
    }

    // ---- promise 5

    private static void told() {
        of("5: OUTSIDE");
        GraftRules x = new GraftRules();
        is("-1", x.told(-1), OUTSIDE);
        is("10", x.told(10), OUTSIDE);
        is("lowest", x.told(LOW), OUTSIDE);
        is("highest", x.told(HIGH), OUTSIDE);
        of("5: 4 CODE of the first BAD one by CODE (NONE)");
        is("none", x.told(4), NONE);
        x.fate(0, 2, 3);
        x.fate(1, 2, 2);
        is("of five, the lowest code", x.told(4), code("a.a.a.."));
        GraftRules y = new GraftRules();
        y.fate(6, 3, 7);
        is("the only one", y.told(4), code("bbb...."));
        GraftRules z = new GraftRules();
        z.fate(0, 3, 1);
        z.fate(6, 3, 7);
        // Of aaa.... and bbb.... the first; the other tree of three of one letter has no place.
        is("bad ones", z.told(3), 2);
        is("of two", z.told(4), code("aaa...."));
    }

    private static void toldAtItsEnds() {
        GraftRules x = new GraftRules();
        of("5: 0 TREES, empty and full");
        is("none", x.told(0), 0);
        x.drift(8);
        is("full", x.told(0), 8);
        of("5: 1 letters of THE TEXT, empty and full");
        is("none", x.told(1), 0);
        feedAll(x, "a".repeat(31));
        is("full", x.told(1), 30);
        of("5: 2 CRITICAL ones, 3 BAD ones (how many of all TREES of three NODES)");
        is("no rules: critical", x.told(2), 0);
        is("no rules: bad", x.told(3), 0);
        x.dual();
        is("all nothing: critical", x.told(2), 40);
        is("all nothing: bad", x.told(3), 0);
        // The most bad ones that any rules have.
        x.clear();
        x.fate(3, 1, 0);
        x.fate(4, 1, 0);
        x.fate(5, 2, 0);
        x.fate(6, 2, 2);
        x.fate(7, 2, 1);
        is("the most bad ones", x.told(3), 14);
        of("5: 5 1 SOUND, 0 not");
        is("not", x.told(5), 0);
        x.clear();
        is("sound", x.told(5), 1);
        toldDualAndBook();
    }

    private static void toldDualAndBook() {
        of("5: 6 1 DUAL is as it is, 0 not");
        GraftRules x = with("a..");
        is("no rules", x.told(6), 0);
        x.dual();
        is("all nothing", x.told(6), 0);
        x.clear();
        x.fate(0, 2, 1);
        x.fate(2, 3, 3);
        x.fate(4, 2, 5);
        is("one pair is missing", x.told(6), 0);
        x.fate(6, 3, 7);
        is("four pairs, left and right", x.told(6), 1);
        x.clear();
        x.fate(0, 2, 2);
        x.fate(1, 2, 3);
        x.fate(4, 2, 5);
        x.fate(6, 2, 7);
        is("four pairs, two of one side", x.told(6), 0);
        of("5: 7 entries of THE BOOK, empty and full");
        is("none", x.told(7), 0);
        for (int i = 0; i < 21; i++) {
            x.write(0, 9);
        }
        is("full", x.told(7), 20);
        of("5: 8 WRONG");
        is("none", x.told(8), NONE);
        x.take(0);
        is("the first", x.told(8), 0);
        of("5: 9 how many can be undone");
        GraftRules y = new GraftRules();
        is("none", y.told(9), 0);
        y.clear();
        is("one", y.told(9), 1);
        for (int i = 0; i < 19; i++) {
            y.clear();
        }
        is("twenty", y.told(9), 20);
        y.clear();
        is("of twenty-one", y.told(9), 20);
        y.undo(20);
        is("all undone", y.told(9), 0);
    }

    // ---- promise 6

    private static void tree() {
        of("6: UNKNOWN");
        GraftRules x = with("a..", "b..");
        for (int what = 0; what <= 8; what++) {
            is("tree -1", x.tree(-1, what), UNKNOWN);
            is("tree 2", x.tree(2, what), UNKNOWN);
            is("tree 8", x.tree(8, what), UNKNOWN);
            is("lowest", x.tree(LOW, what), UNKNOWN);
            is("highest", x.tree(HIGH, what), UNKNOWN);
        }
        x.take(0);
        is("one that went", x.tree(1, 0), UNKNOWN);
        is("the last one", x.tree(0, 0), 18);
        x.undo(2);
        is("one that is undone", x.tree(1, 0), UNKNOWN);
        of("6: OUTSIDE");
        is("what -1", x.tree(0, -1), OUTSIDE);
        is("what 9", x.tree(0, 9), OUTSIDE);
        is("what lowest", x.tree(0, LOW), OUTSIDE);
        is("what highest", x.tree(0, HIGH), OUTSIDE);
        is("UNKNOWN is ahead of it", x.tree(1, 9), UNKNOWN);
        treeSigns();
        treeNodesAndPlaces();
        treeWithoutEnd();
        treeMirrored();
        treeLongestWay();
    }

    private static void treeSigns() {
        of("6: 1 SIGN and 1");
        GraftRules x = with("aa...", "bb...", ".");
        x.fate(0, 3, 1);
        x.fate(6, 1, 0);
        is("1", x.tree(0, 1), 2);
        x.plain(0);
        x.plain(1);
        is("-1", x.tree(0, 1), 0);
        is("0", x.tree(1, 1), 1);
        is("1 of a leaf", x.tree(2, 1), 2);
    }

    private static void treeNodesAndPlaces() {
        of("6: 2 NODES, 3 PLACES (how many), none and most");
        GraftRules x = with(".", "b..", "bbbbbb.......", "b.a.b.a.b.a..");
        x.dual();
        is("nodes of a leaf", x.tree(0, 2), 0);
        is("places of a leaf", x.tree(0, 3), 0);
        is("places of one node", x.tree(1, 3), 0);
        is("nodes of six", x.tree(2, 2), 6);
        is("places of six", x.tree(2, 3), 5);
        is("places of six, on right branches", x.tree(3, 3), 5);
        x.clear();
        is("places by no rules", x.tree(2, 3), 0);
    }

    private static void treeWithoutEnd() {
        of("6: 4 STEPS till it is PLAIN (NONE: no END)");
        GraftRules x = longWays("aaa...b.a..", "baa...a.a..", ".");
        is("none", x.tree(2, 4), 0);
        is("60", x.tree(0, 4), 60);
        is("no end", x.tree(1, 4), NONE);
        of("6: 5 CODE of it MADE PLAIN (NONE)");
        is("of a leaf", x.tree(2, 5), 0);
        is("no end", x.tree(1, 5), NONE);
        DUE.isTrue("of 60 steps", x.tree(0, 5) > 0);
        of("6: 6 SIGN of that and 1 (NONE)");
        is("of a leaf", x.tree(2, 6), 2);
        is("of 60 steps", x.tree(0, 6), 2);
        is("no end", x.tree(1, 6), NONE);
        is("the tree without end stays", x.tree(1, 0), code("baa...a.a.."));
    }

    private static void treeMirrored() {
        of("6: 7 CODE of it MIRRORED, of a leaf and of six NODES");
        GraftRules x = with(".", "ab.a..b.bb...", "bbbbbb.......");
        is("of a leaf", x.tree(0, 7), 0);
        is("of six", x.tree(1, 7), code("abb.b...ba..."));
        is("of the highest code", x.tree(2, 7), code("b.b.b.b.b.b.."));
        is("it is not changed", x.tree(2, 0), code("bbbbbb......."));
    }

    private static void treeLongestWay() {
        of("6: 8 how many NODES lie on the longest way from its first NODE to a leaf");
        GraftRules x = with(".", "a..", "a.b..", "abb...aa...", "a.b.a.b.a.b..", "bbbbbb.......", "ab.a..a..");
        int[] ways = {0, 1, 2, 3, 6, 6, 3};
        for (int t = 0; t < ways.length; t++) {
            is("tree " + t, x.tree(t, 8), ways[t]);
        }
    }

    // ---- promise 7

    private static void pattern() {
        of("7: UNKNOWN");
        GraftRules x = new GraftRules();
        for (int what = 0; what <= 2; what++) {
            is("-1", x.pattern(-1, what), UNKNOWN);
            is("8", x.pattern(8, what), UNKNOWN);
            is("lowest", x.pattern(LOW, what), UNKNOWN);
            is("highest", x.pattern(HIGH, what), UNKNOWN);
        }
        of("7: OUTSIDE");
        is("what -1", x.pattern(7, -1), OUTSIDE);
        is("what 3", x.pattern(7, 3), OUTSIDE);
        is("what lowest", x.pattern(7, LOW), OUTSIDE);
        is("what highest", x.pattern(7, HIGH), OUTSIDE);
        is("UNKNOWN is ahead of it", x.pattern(8, 3), UNKNOWN);
        x.fate(7, 3, 0);
        x.fate(1, 1, 0);
        of("7: 1 which it becomes (NONE)");
        is("the last becomes the first", x.pattern(7, 1), 0);
        is("a free one", x.pattern(0, 1), NONE);
        is("nothing", x.pattern(1, 1), NONE);
        of("7: 2 which becomes it (NONE)");
        is("the last becomes the first", x.pattern(0, 2), 7);
        is("of what becomes another", x.pattern(7, 2), NONE);
        is("of nothing", x.pattern(1, 2), NONE);
        is("of a free one", x.pattern(2, 2), NONE);
    }

    // ---- promise 8

    private static void same() {
        of("8: UNKNOWN");
        GraftRules x = with("aa...", "a.a..");
        is("-1", x.same(-1, 0), UNKNOWN);
        is("2", x.same(2, 0), UNKNOWN);
        is("the second -1", x.same(0, -1), UNKNOWN);
        is("the second 2", x.same(0, 2), UNKNOWN);
        is("both", x.same(LOW, HIGH), UNKNOWN);
        GraftRules y = longWays("baa...a.a..");
        is("ahead of NONE", y.same(0, 1), UNKNOWN);
        of("8: SAME (1, 0)");
        is("not", x.same(0, 1), 0);
        is("a tree and itself", x.same(1, 1), 1);
        x.fate(0, 2, 1);
        is("by a rule", x.same(0, 1), 1);
        x.fate(0, 3, 1);
        is("with the other sign", x.same(0, 1), 0);
        x.fate(0, 1, 0);
        x.fate(1, 1, 0);
        is("nothing and nothing", x.same(0, 1), 1);
        type(x, ".");
        is("nothing and a leaf", x.same(0, 2), 0);
        of("8: NONE");
        is("no end", y.same(0, 0), NONE);
    }

    // ---- promises 9 and 10

    private static void eachPatternCounts() {
        of("9: COUNT of n, each PATTERN being the only one that is not free");
        // Of the 40 trees of four leaves each pattern stands in ten places; a on a and b on b twice in one of them.
        long[] counts = {31, 31, 30, 30, 30, 30, 31, 31};
        for (int p = 0; p < 8; p++) {
            GraftRules x = new GraftRules();
            x.fate(p, 1, 0);
            is("pattern " + p + ": of 2", x.count(2), 2);
            is("pattern " + p + ": of 3", x.count(3), 7);
            is("pattern " + p + ": of 4", x.count(4), counts[p]);
        }
    }

    private static void series() {
        GraftRules x = new GraftRules();
        of("9: COUNT of n (1 .. 7)");
        is("1", x.count(1), 1);
        is("7", x.count(7), 8448);
        eachPatternCounts();
        of("9: OUTSIDE");
        is("0", x.count(0), OUTSIDE);
        is("8", x.count(8), OUTSIDE);
        is("-1", x.count(-1), OUTSIDE);
        is("lowest", x.count(LOW), OUTSIDE);
        is("highest", x.count(HIGH), OUTSIDE);
        x.fate(0, 2, 1);
        of("10: The n-th (1 .. 7)");
        is("1", x.undoneBy(1), 1);
        is("7", x.undoneBy(7), 1);
        of("10: OUTSIDE");
        is("0", x.undoneBy(0), OUTSIDE);
        is("8", x.undoneBy(8), OUTSIDE);
        is("-1", x.undoneBy(-1), OUTSIDE);
        is("lowest", x.undoneBy(LOW), OUTSIDE);
        is("highest", x.undoneBy(HIGH), OUTSIDE);
    }
}
