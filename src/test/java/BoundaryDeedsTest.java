/** The boundary cases that promises 11 to 20 name, each sentence with a test of its own. */
public final class BoundaryDeedsTest extends Bench {
    private static final Due DUE = new Due();

    public static void main(String[] args) {
        graft();
        step();
        plain();
        mirror();
        take();
        fate();
        dual();
        clear();
        drift();
        undo();
        DUE.end("BoundaryDeedsTest");
    }

    private static void of(String sentence) {
        DUE.of("Promise " + sentence);
    }

    private static void is(String what, long got, long want) {
        DUE.is(what, got, want);
    }

    // ---- promise 11

    private static void graft() {
        graftUnknown();
        graftLeaves();
        graftSixNodes();
        graftNothing();
        graftFull();
        graftFullAheadOfNot();
        graftSigns();
        graftOfLeaves();
        graftBehindLargerOnes();
    }

    private static void graftUnknown() {
        of("11: UNKNOWN (the TREES)");
        GraftRules x = with("a..", "b..");
        is("-1", x.graft(-1, 0, 0), UNKNOWN);
        is("2", x.graft(2, 0, 0), UNKNOWN);
        is("lowest", x.graft(LOW, 0, 0), UNKNOWN);
        is("highest", x.graft(HIGH, 0, 0), UNKNOWN);
        is("the other -1", x.graft(0, 0, -1), UNKNOWN);
        is("the other 2", x.graft(0, 0, 2), UNKNOWN);
        is("the other lowest", x.graft(0, 0, LOW), UNKNOWN);
        is("the other highest", x.graft(0, 0, HIGH), UNKNOWN);
        is("on no tree at all", new GraftRules().graft(0, 0, 0), UNKNOWN);
        is("trees", x.told(0), 2);
    }

    private static void graftLeaves() {
        of("11: UNKNOWN (the LEAF)");
        GraftRules x = with(".", "a..", "bbbbbb.......");
        is("leaf -1", x.graft(1, -1, 0), UNKNOWN);
        is("leaf 1 of a leaf", x.graft(0, 1, 0), UNKNOWN);
        is("leaf 2 of one node", x.graft(1, 2, 0), UNKNOWN);
        is("leaf 7 of six nodes", x.graft(2, 7, 0), UNKNOWN);
        is("leaf lowest", x.graft(2, LOW, 0), UNKNOWN);
        is("leaf highest", x.graft(2, HIGH, 0), UNKNOWN);
        is("leaf 0 of a leaf", x.graft(0, 0, 0), 3);
        is("leaf 1 of one node", x.graft(1, 1, 0), 4);
        is("leaf 6 of six nodes", x.graft(2, 6, 0), 5);
    }

    private static void graftSixNodes() {
        of("11: NOT: more than 6 NODES");
        for (int nodes = 0; nodes <= 6; nodes++) {
            GraftRules x = with(comb('a', nodes), comb('b', 6 - nodes), comb('b', Math.min(6, 7 - nodes)));
            is("6 are " + nodes + " and others", x.graft(0, nodes, 1), 3);
            is("its nodes", x.tree(3, 2), 6);
            is("its code", x.tree(3, 0), code("a".repeat(nodes) + ".".repeat(nodes) + comb('b', 6 - nodes)));
            if (nodes > 0) {
                is("7 are " + nodes + " and others", x.graft(0, nodes, 2), NOT);
                is("trees", x.told(0), 4);
            }
        }
    }

    private static void graftNothing() {
        of("11: NOT: one is NOTHING");
        GraftRules x = with("aa...", "b..");
        x.fate(0, 1, 0);
        x.plain(0);
        is("on nothing", x.graft(0, 0, 1), NOT);
        is("of nothing", x.graft(1, 0, 0), NOT);
        is("nothing on nothing", x.graft(0, 0, 0), NOT);
        is("nothing has one leaf", x.graft(0, 1, 1), UNKNOWN);
        is("trees", x.told(0), 2);
        is("deeds", x.told(9), 4);
    }

    private static GraftRules eight() {
        GraftRules x = with("aa...", "b..", "aaaaaa.......", "a..", ".", ".", ".", ".");
        x.fate(0, 1, 0);
        x.plain(0);
        return x;
    }

    private static void graftFull() {
        of("11: FULL");
        GraftRules x = eight();
        is("a ninth", x.graft(1, 0, 3), FULL);
        is("trees", x.told(0), 8);
        x.take(7);
        is("an eighth", x.graft(1, 0, 3), 7);
    }

    private static void graftFullAheadOfNot() {
        of("11: FULL (ahead of NOT)");
        GraftRules x = eight();
        is("with more than 6 nodes", x.graft(2, 0, 1), FULL);
        is("of nothing", x.graft(1, 0, 0), FULL);
        is("on nothing", x.graft(0, 0, 1), FULL);
        is("UNKNOWN is ahead of it: the leaf", x.graft(1, 2, 3), UNKNOWN);
        is("UNKNOWN is ahead of it: the tree", x.graft(8, 0, 3), UNKNOWN);
        is("UNKNOWN is ahead of it: the other", x.graft(1, 0, 8), UNKNOWN);
    }

    private static void graftSigns() {
        of("11: SIGNS multiplied");
        GraftRules x = with("aa...", "b..");
        x.fate(0, 3, 1);
        x.plain(0);
        x.graft(0, 0, 0);
        x.graft(0, 0, 1);
        x.graft(1, 0, 0);
        x.graft(1, 0, 1);
        int[] signs = {0, 2, 2, 0, 0, 2};
        for (int t = 0; t < signs.length; t++) {
            is("sign and 1 of " + t, x.tree(t, 1), signs[t]);
        }
    }

    private static void graftOfLeaves() {
        of("11: that of t, with that of u in place of its LEAF i, where one is a leaf or both are one TREE");
        GraftRules x = with(".", "ab...");
        is("a leaf on a leaf", x.graft(0, 0, 0), 2);
        is("it is a leaf", x.tree(2, 0), 0);
        is("a tree on a leaf", x.graft(0, 0, 1), 3);
        is("it is that tree", x.tree(3, 0), code("ab..."));
        is("a leaf on a tree", x.graft(1, 2, 0), 4);
        is("it is that tree", x.tree(4, 0), code("ab..."));
        is("a tree on itself", x.graft(1, 1, 1), 5);
        is("it is there twice", x.tree(5, 0), code("ab.ab...."));
        is("what it was stays", x.tree(1, 0), code("ab..."));
    }

    private static void graftBehindLargerOnes() {
        of("11: that of t, whatever was asked of larger ones ahead of it");
        for (String larger : new String[] {"b.b.b.b.b.b..", "bbbbbb.......", "bb.b.b.b.b..."}) {
            GraftRules x = with("a..", "b..", larger);
            for (int i = 0; i <= 1; i++) {
                x.same(2, 2);
                x.tree(2, 7);
                x.graft(0, i, 1);
                is("grafted on leaf " + i, x.tree(3 + i, 0), code(i == 0 ? "ab..." : "a.b.."));
                is("its nodes", x.tree(3 + i, 2), 2);
            }
        }
    }

    // ---- promise 12

    private static void step() {
        of("12: UNKNOWN (the TREE)");
        GraftRules x = with("aaa....", "a..", ".");
        x.fate(0, 2, 1);
        is("-1", x.step(-1, 0), UNKNOWN);
        is("3", x.step(3, 0), UNKNOWN);
        is("lowest", x.step(LOW, 0), UNKNOWN);
        is("highest", x.step(HIGH, 0), UNKNOWN);
        is("ahead of OUTSIDE", x.step(3, -1), UNKNOWN);
        of("12: OUTSIDE: no such PLACE");
        is("place -1", x.step(0, -1), OUTSIDE);
        is("place 2 of two", x.step(0, 2), OUTSIDE);
        is("lowest", x.step(0, LOW), OUTSIDE);
        is("highest", x.step(0, HIGH), OUTSIDE);
        is("of one node", x.step(1, 0), OUTSIDE);
        is("of a leaf", x.step(2, 0), OUTSIDE);
        is("it is not changed", x.tree(0, 0), code("aaa...."));
        is("deeds", x.told(9), 4);
        of("12: how many PLACES it has then");
        is("at the last place", x.step(0, 1), 1);
        is("at the only place", x.step(0, 0), 1);
        is("at the last one left", x.step(0, 0), 0);
        is("there is none now", x.step(0, 0), OUTSIDE);
        stepMakesPlaces();
        stepToNothing();
        stepFirst();
    }

    private static void stepFirst() {
        of("12: A STEP at PLACE k of a TREE, whatever was asked ahead of it");
        GraftRules x = with("aaa....", "baa....", "bb...");
        x.fate(0, 2, 1);
        is("of the second", x.step(1, 0), 0);
        is("of the first", x.step(0, 1), 1);
        is("of the third", x.step(2, 0), OUTSIDE);
        is("the second", x.tree(1, 0), code("ba.a..."));
        is("the first", x.tree(0, 0), code("aa.a..."));
    }

    private static void stepMakesPlaces() {
        of("12: how many PLACES it has then, when it has more, as many or fewer");
        GraftRules x = with("aa.b..b..", "a.aa...", "aab....");
        x.fate(0, 2, 6);
        x.fate(7, 1, 0);
        is("one place", x.tree(0, 3), 1);
        is("two then", x.step(0, 0), 2);
        is("code", x.tree(0, 0), code("bb.b..b.."));
        x.clear();
        x.fate(1, 2, 3);
        x.fate(4, 2, 0);
        is("one place, of the second", x.tree(1, 3), 1);
        is("one then", x.step(1, 0), 1);
        is("code", x.tree(1, 0), code("a.ba..."));
        x.clear();
        x.fate(0, 2, 6);
        x.fate(2, 2, 7);
        is("two places", x.tree(2, 3), 2);
        is("none then", x.step(2, 0), 0);
        is("code", x.tree(2, 0), code("bbb...."));
    }

    private static void stepToNothing() {
        of("12: how many PLACES it has then, when it is NOTHING");
        GraftRules x = with("aaaaaa.......");
        x.fate(0, 1, 0);
        is("places ahead", x.tree(0, 3), 5);
        is("the last of five", x.step(0, 4), 0);
        is("no more", x.step(0, 0), OUTSIDE);
    }

    // ---- promise 13

    private static void plain() {
        of("13: UNKNOWN");
        GraftRules x = longWays("baa...a.a..", "aaa...b.a..", ".");
        is("-1", x.plain(-1), UNKNOWN);
        is("3", x.plain(3), UNKNOWN);
        is("lowest", x.plain(LOW), UNKNOWN);
        is("highest", x.plain(HIGH), UNKNOWN);
        of("13: NOT: no END");
        is("61 steps", x.plain(0), NOT);
        is("it is not changed", x.tree(0, 0), code("baa...a.a.."));
        is("its sign, too", x.tree(0, 1), 2);
        is("no deed", x.told(9), 7);
        of("13: how many STEPS it took");
        is("none", x.plain(2), 0);
        is("60", x.plain(1), 60);
        is("none then", x.plain(1), 0);
        is("each a deed", x.told(9), 10);
        GraftRules y = with("bbbbbb.......");
        y.fate(6, 1, 0);
        is("one, to nothing", y.plain(0), 1);
        is("none, of nothing", y.plain(0), 0);
        is("it is still nothing", y.tree(0, 1), 1);
        plainFirst();
    }

    private static void plainFirst() {
        of("13: how many STEPS it took, whatever was asked ahead of it");
        GraftRules x = with("bb...", "aaa....", ".");
        x.fate(0, 3, 1);
        is("of the second", x.plain(1), 2);
        is("of the first", x.plain(0), 0);
        is("the second", x.tree(1, 0), code("a.a.a.."));
        is("the first", x.tree(0, 0), code("bb..."));
    }

    // ---- promises 14 and 15

    private static void mirror() {
        of("14: UNKNOWN");
        GraftRules x = with(".", "bbbbbb.......");
        is("-1", x.mirror(-1), UNKNOWN);
        is("2", x.mirror(2), UNKNOWN);
        is("lowest", x.mirror(LOW), UNKNOWN);
        is("highest", x.mirror(HIGH), UNKNOWN);
        is("of no trees", new GraftRules().mirror(0), UNKNOWN);
        is("no deed", x.told(9), 2);
        mirrorFirst();
        of("14: its CODE, of a leaf, of NOTHING and of six NODES");
        is("a leaf", x.mirror(0), 0);
        is("six nodes", x.mirror(1), code("b.b.b.b.b.b.."));
        is("each a deed", x.told(9), 4);
        x.fate(7, 1, 0);
        x.plain(1);
        is("nothing", x.mirror(1), 0);
        is("its sign", x.tree(1, 1), 1);
        is("the leaf's sign", x.tree(0, 1), 2);
    }

    private static void mirrorFirst() {
        of("14: its CODE, whatever was asked ahead of it");
        GraftRules x = with("ab...", "bbbbbb.......", ".");
        is("of the first", x.mirror(0), code("a.b.."));
        is("of the last", x.mirror(2), 0);
        is("of the second", x.mirror(1), code("b.b.b.b.b.b.."));
        is("of the first again", x.mirror(0), code("ab..."));
    }

    private static void take() {
        takeSigns();
        of("15: UNKNOWN");
        GraftRules x = with("a..", "b..");
        is("-1", x.take(-1), UNKNOWN);
        is("2", x.take(2), UNKNOWN);
        is("lowest", x.take(LOW), UNKNOWN);
        is("highest", x.take(HIGH), UNKNOWN);
        is("of no trees", new GraftRules().take(0), UNKNOWN);
        is("no deed", x.told(9), 2);
        of("15: how many are left");
        is("the last", x.take(1), 1);
        is("the only one", x.take(0), 0);
        is("none", x.take(0), UNKNOWN);
        x.drift(8);
        for (int left = 7; left >= 0; left--) {
            is("of a full shelf", x.take(left / 2), left);
        }
    }

    private static void takeSigns() {
        of("15: A TREE goes, with its SIGN");
        for (int gone = 0; gone < 3; gone++) {
            GraftRules x = with("aa...", "bb...", ".");
            x.fate(0, 3, 1);
            x.fate(6, 1, 0);
            x.plain(0);
            x.plain(1);
            x.take(gone);
            is(gone + " gone: the first", x.tree(0, 1), gone == 0 ? 1 : 0);
            is(gone + " gone: the second", x.tree(1, 1), gone == 2 ? 1 : 2);
        }
    }

    // ---- promise 16

    private static void fate() {
        fateUnknown();
        fateOutside();
        fateWhatItWas();
        fateOfItself();
        fateNotFree();
        fateTaken();
        fateOfMade();
        fateFreeOfMade();
    }

    private static void fateUnknown() {
        of("16: UNKNOWN (q with 2, 3 alone)");
        GraftRules x = new GraftRules();
        for (int v = 0; v <= 3; v++) {
            is("pattern -1", x.fate(-1, v, 0), UNKNOWN);
            is("pattern 8", x.fate(8, v, 0), UNKNOWN);
            is("lowest", x.fate(LOW, v, 0), UNKNOWN);
            is("highest", x.fate(HIGH, v, 0), UNKNOWN);
        }
        for (int v = 2; v <= 3; v++) {
            is("q -1", x.fate(0, v, -1), UNKNOWN);
            is("q 8", x.fate(0, v, 8), UNKNOWN);
            is("q lowest", x.fate(0, v, LOW), UNKNOWN);
            is("q highest", x.fate(0, v, HIGH), UNKNOWN);
        }
        is("no deed", x.told(9), 0);
        for (int q : new int[] {-1, 8, LOW, HIGH}) {
            is("q with 1", x.fate(3, 1, q), 0);
            is("q with 0", x.fate(3, 0, q), 1);
        }
    }

    private static void fateOutside() {
        of("16: OUTSIDE (FATE)");
        GraftRules x = new GraftRules();
        is("-1", x.fate(0, -1, 1), OUTSIDE);
        is("4", x.fate(0, 4, 1), OUTSIDE);
        is("lowest", x.fate(0, LOW, 1), OUTSIDE);
        is("highest", x.fate(0, HIGH, 1), OUTSIDE);
        is("q is not looked at", x.fate(0, 4, 8), OUTSIDE);
        is("UNKNOWN is ahead of it", x.fate(8, 4, 8), UNKNOWN);
        x.fate(0, 2, 1);
        is("ahead of NOT", x.fate(1, 4, 0), OUTSIDE);
    }

    private static void fateWhatItWas() {
        of("16: FATE of a PATTERN (0 free, 1 NOTHING, 2, 3 it becomes q): what it was");
        int was = 0;
        GraftRules x = new GraftRules();
        for (int v : new int[] {0, 1, 1, 2, 2, 3, 3, 0, 2, 1, 3, 2, 0, 3, 1, 0}) {
            is("it was", x.fate(7, v, 0), was);
            is("it is", x.pattern(7, 0), v);
            is("it becomes", x.pattern(7, 1), v >= 2 ? 0 : NONE);
            is("what becomes the other", x.pattern(0, 2), v >= 2 ? 7 : NONE);
            was = v;
        }
        is("each a deed", x.told(9), 16);
    }

    private static void fateOfItself() {
        of("16: NOT: 2, 3: q is it");
        for (int p = 0; p < 8; p++) {
            GraftRules x = new GraftRules();
            is("2 of " + p, x.fate(p, 2, p), NOT);
            is("3 of " + p, x.fate(p, 3, p), NOT);
            is("1 of " + p, x.fate(p, 1, p), 0);
            is("2 of " + p + " that is nothing", x.fate(p, 2, p), NOT);
            is("0 of " + p, x.fate(p, 0, p), 1);
        }
    }

    private static void fateNotFree() {
        of("16: NOT: 2, 3: q is not free");
        for (int v = 2; v <= 3; v++) {
            GraftRules x = new GraftRules();
            x.fate(1, 1, 0);
            x.fate(2, 2, 3);
            x.fate(4, 3, 5);
            is("q is nothing", x.fate(0, v, 1), NOT);
            is("q becomes another one", x.fate(0, v, 2), NOT);
            is("q becomes another one with the other sign", x.fate(0, v, 4), NOT);
            is("q is free", x.fate(0, v, 7), 0);
        }
    }

    private static void fateTaken() {
        of("16: NOT: 2, 3: another one than p becomes q");
        for (int v = 2; v <= 3; v++) {
            GraftRules x = new GraftRules();
            x.fate(7, 2, 6);
            is("another one", x.fate(0, v, 6), NOT);
            is("p itself", x.fate(7, v, 6), 2);
            x.fate(7, 0, 0);
            is("none now", x.fate(0, v, 6), 0);
        }
    }

    private static void fateOfMade() {
        of("16: NOT: something becomes it (but FATE 0)");
        GraftRules x = new GraftRules();
        x.fate(7, 3, 0);
        is("1", x.fate(0, 1, 0), NOT);
        is("2", x.fate(0, 2, 1), NOT);
        is("3", x.fate(0, 3, 1), NOT);
        is("2, what becomes it", x.fate(0, 2, 7), NOT);
        x.fate(7, 1, 0);
        is("1, when nothing becomes it", x.fate(0, 1, 0), 0);
    }

    private static void fateFreeOfMade() {
        of("16: something becomes it (but FATE 0): that is no refusal");
        GraftRules x = new GraftRules();
        x.fate(7, 3, 0);
        is("0", x.fate(0, 0, 5), 0);
        is("it is still made", x.pattern(0, 2), 7);
        is("what makes it is as it was", x.pattern(7, 0), 3);
        is("a deed", x.told(9), 2);
    }

    // ---- promises 17 and 18

    private static void dual() {
        of("17: BAD ones then");
        GraftRules x = new GraftRules();
        is("of no rules", x.dual(), 0);
        is("as told", x.told(3), 0);
        is("of all nothing", x.dual(), 0);
        GraftRules y = new GraftRules();
        y.fate(0, 2, 1);
        y.fate(2, 2, 3);
        // aab.... is bad by these; in the dual aba.... is, too: b on a is nothing then.
        is("ahead of it", y.told(3), 1);
        is("then", y.dual(), 2);
        is("as told", y.told(3), 2);
        is("the first", y.told(4), code("aab...."));
        is("a deed", y.told(9), 3);
        is("undone", y.undo(1), 0);
        is("undone: bad", y.told(3), 1);
    }

    private static void clear() {
        of("18: how many were not");
        GraftRules x = new GraftRules();
        is("none", x.clear(), 0);
        is("a deed all the same", x.told(9), 1);
        x.dual();
        is("all eight", x.clear(), 8);
        x.fate(0, 2, 1);
        x.fate(2, 3, 3);
        x.fate(4, 2, 5);
        x.fate(6, 1, 7);
        is("four, not those that they become", x.clear(), 4);
        of("18: All FATES are free");
        for (int p = 0; p < 8; p++) {
            is("fate of " + p, x.pattern(p, 0), 0);
            is("goal of " + p, x.pattern(p, 1), NONE);
            is("maker of " + p, x.pattern(p, 2), NONE);
            is("it can be nothing", x.fate(p, 1, 0), 0);
        }
    }

    // ---- promise 19

    private static void drift() {
        of("19: OUTSIDE");
        GraftRules x = new GraftRules();
        is("0", x.drift(0), OUTSIDE);
        is("9", x.drift(9), OUTSIDE);
        is("-1", x.drift(-1), OUTSIDE);
        is("lowest", x.drift(LOW), OUTSIDE);
        is("highest", x.drift(HIGH), OUTSIDE);
        is("no draw", seedOf(x), 0);
        of("19: n times BY DRAWS (1 .. 8): TREES");
        for (int n = 1; n <= 8; n++) {
            GraftRules y = new GraftRules();
            is("from none", y.drift(n), n);
            is("each a deed", y.told(9), n);
            GraftRules z = with("a..", "b..", ".");
            is("from three", z.drift(n), Math.min(8, n + 3));
            is("each a deed", z.told(9), Math.min(8, n + 3));
        }
        of("19: n times BY DRAWS, without room: TREES");
        x.drift(8);
        int seed = seedOf(x);
        String before = picture(x);
        is("1", x.drift(1), 8);
        is("8", x.drift(8), 8);
        DUE.isText("all", picture(x), before);
        is("seed", seedOf(x), seed);
        is("OUTSIDE all the same", x.drift(9), OUTSIDE);
        of("19: n times at once or one after the other");
        GraftRules y = new GraftRules();
        for (int i = 0; i < 8; i++) {
            y.drift(1);
        }
        DUE.isText("the same", picture(y), before);
    }

    // ---- promise 20

    private static void undo() {
        of("20: OUTSIDE");
        GraftRules x = with("a..", "b..");
        is("0", x.undo(0), OUTSIDE);
        is("21", x.undo(21), OUTSIDE);
        is("-1", x.undo(-1), OUTSIDE);
        is("lowest", x.undo(LOW), OUTSIDE);
        is("highest", x.undo(HIGH), OUTSIDE);
        is("trees", x.told(0), 2);
        of("20: NOT: not so many");
        is("3 of 2", x.undo(3), NOT);
        is("20 of 2", x.undo(20), NOT);
        is("trees", x.told(0), 2);
        is("2 of 2", x.undo(2), 0);
        is("1 of 0", x.undo(1), NOT);
        is("1 of a new one", new GraftRules().undo(1), NOT);
        is("OUTSIDE is ahead of it", new GraftRules().undo(21), OUTSIDE);
        undoTwenty();
        undoEachDeed();
        undoWhatIsNoDeed();
        undoThenGoOn();
        undoPartOfADrift();
    }

    private static void undoTwenty() {
        of("20: The n latest (1 .. 20) are undone: TREES");
        for (int n = 1; n <= 20; n++) {
            GraftRules x = new GraftRules();
            // Three trees come and go, so that the shelf tells how many deeds are left.
            for (int deeds = 0; deeds < 24; deeds++) {
                if (deeds % 6 < 3) {
                    type(x, comb('a', deeds % 6 + 1));
                } else {
                    x.take(0);
                }
            }
            int left = (24 - n) % 6;
            is("undone " + n, x.undo(n), left <= 3 ? left : 6 - left);
            is("left of 20", x.told(9), 20 - n);
            is("one too many", x.undo(21 - n), NOT);
        }
    }

    private static GraftRules readyForAll() {
        GraftRules x = with("aa...", "ab...", ".");
        x.fate(0, 3, 1);
        feedAll(x, "b..");
        return x;
    }

    private static void undone(String name, Call deed, int deeds) {
        of("20: " + name + " is undone");
        GraftRules x = readyForAll();
        String before = shelfAndFates(x);
        deed.on(x);
        is(name + ": deeds", x.told(9), 4 + deeds);
        x.undo(deeds);
        DUE.isText(name, shelfAndFates(x), before);
        is(name + ": trees of one more undone", x.undo(1), 3);
        is(name + ": the fate is undone then", x.pattern(0, 0), 0);
    }

    private static void undoEachDeed() {
        undone("tell()", x -> x.tell(), 1);
        undone("graft()", x -> x.graft(0, 0, 1), 1);
        undone("step()", x -> x.step(0, 0), 1);
        undone("plain()", x -> x.plain(0), 1);
        undone("plain() of no STEPS", x -> x.plain(1), 1);
        undone("mirror()", x -> x.mirror(1), 1);
        undone("mirror() of a leaf", x -> x.mirror(2), 1);
        undone("take()", x -> x.take(0), 1);
        undone("fate()", x -> x.fate(2, 1, 0), 1);
        undone("fate() as it was", x -> x.fate(0, 3, 1), 1);
        undone("dual()", x -> x.dual(), 1);
        undone("clear()", x -> x.clear(), 1);
        undone("drift() of one", x -> x.drift(1), 1);
        undone("drift() of five", x -> x.drift(5), 5);
        undone("drift() of more than there is room for", x -> x.drift(8), 5);
    }

    private static void undoWhatIsNoDeed() {
        of("20: of what is no deed, nothing is undone");
        GraftRules x = with("aa...", "b..");
        feedAll(x, "a");
        x.seed(5);
        x.write(0, 5);
        x.tear();
        x.write(0, 7);
        x.tree(0, 7);
        x.same(0, 1);
        x.fate(0, 9, 9);
        x.undo(9);
        is("told", x.told(9), 2);
        is("undone", x.undo(1), 1);
        is("the tree that stays", x.tree(0, 0), code("aa..."));
        is("letters", x.told(1), 1);
        is("entries", x.told(7), 1);
        is("seed", x.seed(0), 5);
        of("20: a tell() with a FAULT is no deed");
        type(x, "?");
        is("told", x.told(9), 1);
        is("undone", x.undo(1), 0);
    }

    private static void undoThenGoOn() {
        of("20: behind undo(), deeds go on from there");
        GraftRules x = with("a..", "b..", "aa...");
        x.undo(2);
        type(x, "bb...");
        is("told", x.told(9), 2);
        is("the new one", x.tree(1, 0), code("bb..."));
        is("undone", x.undo(1), 1);
        is("undone, too", x.undo(1), 0);
        is("no more", x.undo(1), NOT);
    }

    private static void undoPartOfADrift() {
        of("20: each of the times BY DRAWS is undone alone");
        GraftRules x = new GraftRules();
        x.drift(8);
        int third = x.tree(2, 0);
        is("five of eight", x.undo(5), 3);
        is("the third stays", x.tree(2, 0), third);
        is("three are left", x.told(9), 3);
        is("four", x.undo(4), NOT);
        is("three", x.undo(3), 0);
    }
}
