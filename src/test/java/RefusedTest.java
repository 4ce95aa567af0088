/**
 * "What is refused changes nothing" and "ASKED, nothing changes by it", for each call: of two objects made
 * alike one gets the call, and then all that both show, can undo, have kept and have typed must be the same.
 * And "REFUSALS, of several the first in this order", for each call that has several.
 */
public final class RefusedTest extends Bench {
    private static final Due DUE = new Due();

    public static void main(String[] args) {
        settings();
        treesRefused();
        deedsRefused();
        fatesRefused();
        othersRefused();
        fullRefused();
        newRefused();
        endlessRefused();
        asked();
        withoutRoom();
        order();
        DUE.end("RefusedTest");
    }

    /** Trees of each sign, rules of each fate, a text, a fault, a book, one image, three deeds since it. */
    private static GraftRules busy() {
        GraftRules x = with("aa...", "bb...", "ab...", "aaaa.....");
        x.fate(0, 3, 1);
        x.plain(0);
        x.fate(6, 1, 0);
        x.plain(1);
        x.fate(3, 2, 7);
        x.seed(77);
        x.keep(1);
        x.mirror(2);
        x.fate(2, 2, 5);
        x.drift(1);
        type(x, "a?");
        feedAll(x, "b.");
        x.write(0, code("a.a.."));
        x.write(2, 5);
        return x;
    }

    /** Nothing more goes in: eight trees, thirty letters, twenty entries, twenty deeds. */
    private static GraftRules full() {
        GraftRules x = new GraftRules();
        x.seed(439);
        x.drift(8);
        for (int t = 0; t < 13; t++) {
            x.mirror(t % 8);
        }
        feedAll(x, "aaaaaa......." + ".".repeat(17));
        for (int i = 0; i < 20; i++) {
            x.write(i % 8, x.tree(i % 8, 0));
        }
        return x;
    }

    private static GraftRules endless() {
        GraftRules x = longWays("baa...a.a..", "a..");
        x.mirror(1);
        return x;
    }

    /** Were the settings not what they are said to be, what follows would show little. */
    private static void settings() {
        GraftRules x = busy();
        DUE.is("busy: trees", x.told(0), 5);
        DUE.is("busy: letters", x.told(1), 2);
        DUE.is("busy: entries", x.told(7), 2);
        DUE.is("busy: wrong", x.told(8), 1);
        DUE.is("busy: deeds", x.told(9), 3);
        DUE.is("busy: fault", x.fault(), 1);
        DUE.is("busy: sign of tree 0", x.tree(0, 1), 0);
        DUE.is("busy: sign of tree 1", x.tree(1, 1), 1);
        DUE.is("busy: places of tree 3", x.tree(3, 3), 3);
        GraftRules y = full();
        DUE.is("full: trees", y.told(0), 8);
        DUE.is("full: letters", y.told(1), 30);
        DUE.is("full: entries", y.told(7), 20);
        DUE.is("full: deeds", y.told(9), 20);
        DUE.is("endless", endless().tree(0, 4), NONE);
    }

    private static void unchanged(String name, Setting setting, Call call, long want) {
        GraftRules x = setting.made();
        DUE.is(name, call.on(x), want);
        DUE.isText(name, whole(x), whole(setting.made()));
    }

    private static void refused(String name, Call call, long want) {
        unchanged(name, RefusedTest::busy, call, want);
    }

    private static void treesRefused() {
        DUE.of("What is refused changes nothing: trees");
        for (int letter : new int[] {-1, 256, LOW, HIGH}) {
            refused("feed " + letter, x -> x.feed(letter), OUTSIDE);
        }
        for (int what : new int[] {-1, 10, LOW, HIGH}) {
            refused("told " + what, x -> x.told(what), OUTSIDE);
            refused("tree 0, " + what, x -> x.tree(0, what), OUTSIDE);
            refused("pattern 0, " + what, x -> x.pattern(0, what), OUTSIDE);
            refused("count " + what, x -> x.count(what), OUTSIDE);
            refused("undoneBy " + what, x -> x.undoneBy(what), OUTSIDE);
        }
        for (int t : new int[] {-1, 5, 8, LOW, HIGH}) {
            refused("tree " + t, x -> x.tree(t, 0), UNKNOWN);
            refused("same " + t + ", 0", x -> x.same(t, 0), UNKNOWN);
            refused("same 0, " + t, x -> x.same(0, t), UNKNOWN);
        }
        for (int p : new int[] {-1, 8, LOW, HIGH}) {
            refused("pattern " + p, x -> x.pattern(p, 0), UNKNOWN);
        }
        refused("tree 0, 9", x -> x.tree(0, 9), OUTSIDE);
        refused("pattern 0, 3", x -> x.pattern(0, 3), OUTSIDE);
        refused("count 0", x -> x.count(0), OUTSIDE);
        refused("count 8", x -> x.count(8), OUTSIDE);
        refused("undoneBy 0", x -> x.undoneBy(0), OUTSIDE);
        refused("undoneBy 8", x -> x.undoneBy(8), OUTSIDE);
    }

    private static void deedsRefused() {
        DUE.of("What is refused changes nothing: deeds");
        for (int t : new int[] {-1, 5, 8, LOW, HIGH}) {
            refused("graft " + t + ", 0, 0", x -> x.graft(t, 0, 0), UNKNOWN);
            refused("graft 0, 0, " + t, x -> x.graft(0, 0, t), UNKNOWN);
            refused("graft 0, " + t + ", 0", x -> x.graft(0, t, 0), UNKNOWN);
            refused("step " + t, x -> x.step(t, 0), UNKNOWN);
            refused("step 3, " + t, x -> x.step(3, t), OUTSIDE);
            refused("plain " + t, x -> x.plain(t), UNKNOWN);
            refused("mirror " + t, x -> x.mirror(t), UNKNOWN);
            refused("take " + t, x -> x.take(t), UNKNOWN);
        }
        refused("graft on leaf 3 of two nodes", x -> x.graft(0, 3, 0), UNKNOWN);
        refused("graft of too many", x -> x.graft(3, 0, 3), NOT);
        refused("graft on nothing", x -> x.graft(1, 0, 0), NOT);
        refused("graft of nothing", x -> x.graft(0, 0, 1), NOT);
        refused("graft of nothing on nothing", x -> x.graft(1, 0, 1), NOT);
        refused("step of a plain one", x -> x.step(0, 0), OUTSIDE);
        refused("step of nothing", x -> x.step(1, 0), OUTSIDE);
        refused("step at place 3 of three", x -> x.step(3, 3), OUTSIDE);
    }

    private static void fatesRefused() {
        DUE.of("What is refused changes nothing: fate");
        for (int p : new int[] {-1, 8, LOW, HIGH}) {
            refused("pattern " + p + ", 0", x -> x.fate(p, 0, 0), UNKNOWN);
            refused("pattern " + p + ", 1", x -> x.fate(p, 1, 0), UNKNOWN);
            refused("4 becomes " + p, x -> x.fate(4, 2, p), UNKNOWN);
            refused("4 becomes " + p + " with the other sign", x -> x.fate(4, 3, p), UNKNOWN);
        }
        for (int v : new int[] {-1, 4, LOW, HIGH}) {
            refused("fate " + v, x -> x.fate(4, v, 0), OUTSIDE);
            refused("fate " + v + " of what has one", x -> x.fate(0, v, 1), OUTSIDE);
        }
        for (int v = 2; v <= 3; v++) {
            int fate = v;
            refused("itself", x -> x.fate(4, fate, 4), NOT);
            refused("itself, of what becomes another", x -> x.fate(0, fate, 0), NOT);
            refused("what is nothing", x -> x.fate(4, fate, 6), NOT);
            refused("what becomes another", x -> x.fate(4, fate, 0), NOT);
            refused("what another becomes", x -> x.fate(4, fate, 1), NOT);
            refused("of what another becomes", x -> x.fate(1, fate, 4), NOT);
            refused("of what it becomes itself", x -> x.fate(0, fate, 7), NOT);
        }
        refused("nothing, of what another becomes", x -> x.fate(1, 1, 0), NOT);
    }

    private static void othersRefused() {
        DUE.of("What is refused changes nothing: draws, undo, the book, images");
        for (int n : new int[] {-1, 0, 9, LOW, HIGH}) {
            refused("drift " + n, x -> x.drift(n), OUTSIDE);
        }
        for (int n : new int[] {-1, 0, 21, LOW, HIGH}) {
            refused("undo " + n, x -> x.undo(n), OUTSIDE);
        }
        refused("undo 4 of 3", x -> x.undo(4), NOT);
        refused("undo 20 of 3", x -> x.undo(20), NOT);
        for (int t : new int[] {-1, 5, 8, LOW, HIGH}) {
            refused("write " + t, x -> x.write(t, 9), UNKNOWN);
        }
        refused("seed -1", x -> x.seed(-1), OUTSIDE);
        refused("seed lowest", x -> x.seed(LOW), OUTSIDE);
        for (int i : new int[] {-1, 2, LOW, HIGH}) {
            refused("keep " + i, x -> x.keep(i), UNKNOWN);
            refused("goBack " + i, x -> x.goBack(i), UNKNOWN);
        }
        refused("goBack 0", x -> x.goBack(0), NOT);
    }

    private static void fullRefused(String name, Call call, long want) {
        unchanged(name, RefusedTest::full, call, want);
    }

    private static void fullRefused() {
        DUE.of("What is refused changes nothing: FULL");
        fullRefused("feed", x -> x.feed('a'), FULL);
        fullRefused("tell", x -> x.tell(), FULL);
        fullRefused("graft", x -> x.graft(6, 0, 7), FULL);
        fullRefused("graft of too many", x -> x.graft(3, 0, 3), FULL);
        fullRefused("write", x -> x.write(0, 1), FULL);
        fullRefused("undo 21", x -> x.undo(21), OUTSIDE);
        fullRefused("goBack 0", x -> x.goBack(0), NOT);
        fullRefused("goBack 1", x -> x.goBack(1), NOT);
        fullRefused("tree 8", x -> x.tree(8, 0), UNKNOWN);
        fullRefused("take 8", x -> x.take(8), UNKNOWN);
    }

    private static void newRefused(String name, Call call, long want) {
        unchanged(name, GraftRules::new, call, want);
    }

    private static void newRefused() {
        DUE.of("What is refused changes nothing: a new object");
        newRefused("tree", x -> x.tree(0, 0), UNKNOWN);
        newRefused("same", x -> x.same(0, 0), UNKNOWN);
        newRefused("graft", x -> x.graft(0, 0, 0), UNKNOWN);
        newRefused("step", x -> x.step(0, 0), UNKNOWN);
        newRefused("plain", x -> x.plain(0), UNKNOWN);
        newRefused("mirror", x -> x.mirror(0), UNKNOWN);
        newRefused("take", x -> x.take(0), UNKNOWN);
        newRefused("undo", x -> x.undo(1), NOT);
        newRefused("write", x -> x.write(0, 0), UNKNOWN);
        newRefused("goBack 0", x -> x.goBack(0), NOT);
        newRefused("goBack 1", x -> x.goBack(1), NOT);
    }

    private static void endlessRefused() {
        DUE.of("What is refused changes nothing: no END");
        unchanged("plain", RefusedTest::endless, x -> x.plain(0), NOT);
    }

    private static void asked(String name, Setting setting, Call call) {
        GraftRules x = setting.made();
        long first = call.on(x);
        DUE.is(name + " asked again", call.on(x), first);
        DUE.isText(name, whole(x), whole(setting.made()));
    }

    private static void asked() {
        DUE.of("ASKED, nothing changes by it");
        for (Setting setting : new Setting[] {RefusedTest::busy, RefusedTest::full, RefusedTest::endless}) {
            asked("fault", setting, x -> x.fault());
            for (int k = 0; k <= 9; k++) {
                int what = k;
                asked("told " + what, setting, x -> x.told(what));
                asked("tree 0, " + what, setting, x -> x.tree(0, what));
                asked("tree 1, " + what, setting, x -> x.tree(1, what));
                asked("tree 3, " + what, setting, x -> x.tree(3, what));
                asked("pattern " + what + ", 0", setting, x -> x.pattern(what, 0));
                asked("pattern " + what + ", 1", setting, x -> x.pattern(what, 1));
                asked("pattern " + what + ", 2", setting, x -> x.pattern(what, 2));
                asked("count " + what, setting, x -> x.count(what));
                asked("undoneBy " + what, setting, x -> x.undoneBy(what));
                asked("same 0, " + what, setting, x -> x.same(0, what));
            }
        }
    }

    private static void withoutRoom() {
        DUE.of("n times, while there is room: without room nothing changes");
        for (int k = 1; k <= 8; k++) {
            int n = k;
            fullRefused("drift " + n, x -> x.drift(n), 8);
        }
    }

    private static void order() {
        DUE.of("REFUSALS, of several the first in this order: UNKNOWN, OUTSIDE, NOT, FULL");
        fullRefused("feed: OUTSIDE, FULL", x -> x.feed(256), OUTSIDE);
        refused("tree: UNKNOWN, OUTSIDE", x -> x.tree(5, 9), UNKNOWN);
        refused("pattern: UNKNOWN, OUTSIDE", x -> x.pattern(8, 3), UNKNOWN);
        refused("graft: UNKNOWN the leaf, NOT nothing", x -> x.graft(1, 1, 0), UNKNOWN);
        refused("graft: UNKNOWN the leaf, NOT too many", x -> x.graft(3, 5, 3), UNKNOWN);
        refused("graft: UNKNOWN the tree, NOT nothing", x -> x.graft(1, 0, 5), UNKNOWN);
        fullRefused("graft: UNKNOWN the tree, FULL", x -> x.graft(8, 0, 0), UNKNOWN);
        fullRefused("graft: UNKNOWN the other, FULL", x -> x.graft(0, 0, 8), UNKNOWN);
        fullRefused("graft: UNKNOWN the leaf, FULL", x -> x.graft(0, 7, 0), UNKNOWN);
        refused("step: UNKNOWN, OUTSIDE", x -> x.step(5, -1), UNKNOWN);
        refused("fate: UNKNOWN, OUTSIDE", x -> x.fate(8, 4, 8), UNKNOWN);
        refused("fate: UNKNOWN q, NOT", x -> x.fate(1, 2, 8), UNKNOWN);
        refused("fate: OUTSIDE, NOT", x -> x.fate(1, 4, 0), OUTSIDE);
        refused("undo: OUTSIDE, NOT", x -> x.undo(21), OUTSIDE);
        fullRefused("write: UNKNOWN, FULL", x -> x.write(8, 0), UNKNOWN);
        refused("goBack: UNKNOWN, NOT", x -> x.goBack(2), UNKNOWN);
    }
}
