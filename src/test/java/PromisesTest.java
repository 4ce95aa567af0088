/** For each promise of the document: ordinary inputs, the edges it names, and each refusal. */
public final class PromisesTest extends Bench {
    private static final Due DUE = new Due();

    public static void main(String[] args) {
        newObject();
        feed();
        tell();
        fault();
        told();
        toldOfRules();
        treeAsked();
        treeMadePlain();
        sixtySteps();
        pattern();
        same();
        count();
        undoneBy();
        graft();
        graftRefused();
        step();
        stepsByFate();
        plain();
        mirror();
        take();
        fate();
        fateRefused();
        dual();
        clear();
        drift();
        undo();
        undoOfEachDeed();
        undoKeepsTwenty();
        book();
        bookJudged();
        seed();
        images();
        refusedChangesNothing();
        askedChangesNothing();
        DUE.end("PromisesTest");
    }

    private static void is(String what, long got, long want) {
        DUE.is(what, got, want);
    }

    // ---- promise 1

    private static void newObject() {
        GraftRules x = new GraftRules();
        int[] first = {0, 0, 0, 0, NONE, 1, 0, 0, NONE, 0};
        for (int what = 0; what < first.length; what++) {
            is("new: told " + what, x.told(what), first[what]);
        }
        for (int p = 0; p < 8; p++) {
            is("new: fate of " + p, x.pattern(p, 0), 0);
            is("new: goal of " + p, x.pattern(p, 1), NONE);
            is("new: maker of " + p, x.pattern(p, 2), NONE);
        }
        is("new: fault", x.fault(), NONE);
        is("new: no tree", x.tree(0, 0), UNKNOWN);
        is("new: no image", x.goBack(0), NOT);
        is("new: seed", x.seed(0), 0);
        is("NONE", GraftRules.NONE, NONE);
        is("UNKNOWN", GraftRules.UNKNOWN, UNKNOWN);
        is("OUTSIDE", GraftRules.OUTSIDE, OUTSIDE);
        is("NOT", GraftRules.NOT, NOT);
        is("FULL", GraftRules.FULL, FULL);
    }

    // ---- promise 2

    private static void feed() {
        GraftRules x = new GraftRules();
        is("feed -1", x.feed(-1), OUTSIDE);
        is("feed 256", x.feed(256), OUTSIDE);
        is("feed lowest", x.feed(LOW), OUTSIDE);
        is("feed highest", x.feed(HIGH), OUTSIDE);
        is("feed refused: letters", x.told(1), 0);
        is("feed 0", x.feed(0), 1);
        is("feed 255", x.feed(255), 2);
        for (int i = 3; i <= 30; i++) {
            is("feed up to " + i, x.feed('.'), i);
        }
        is("feed: full", x.feed('.'), FULL);
        is("feed: outside ahead of full", x.feed(256), OUTSIDE);
        is("feed: letters", x.told(1), 30);
        is("feed is no deed", x.told(9), 0);
        is("feed: the first letter stands first", x.tell(), -11);
        is("feed: its fault", x.fault(), 0);
        is("feed again", x.feed('a'), 1);
    }

    // ---- promise 3

    private static void tell() {
        GraftRules x = new GraftRules();
        is("tell .", type(x, "."), 0);
        is("tell a..", type(x, "a.."), 1);
        is("tell b.ab...", type(x, "b.ab..."), 2);
        is("tell: text is empty", x.told(1), 0);
        is("tell: code", x.tree(2, 0), code("b.ab..."));
        is("tell: sign", x.tree(2, 1), 2);
        is("tell: a seventh node", type(x, "aaaaaaa"), -12);
        is("tell: text is empty with a fault", x.told(1), 0);
        is("tell: six nodes", type(x, "b.b.b.b.b.b.."), 3);
        is("tell: a fault is no deed", x.told(9), 4);
        type(x, ".");
        type(x, ".");
        type(x, ".");
        is("tell: the eighth", type(x, "a.."), 7);
        is("tell: full", type(x, "a.."), FULL);
        is("tell full: text stays", x.told(1), 3);
        is("tell full ahead of faults", type(x, "??"), FULL);
        is("tell full: text stays with a fault", x.told(1), 5);
        is("tell full: no deed", x.told(9), 8);
        x.take(0);
        is("tell: the fault of what stayed", x.tell(), -11);
        is("tell: where", x.fault(), 3);
        is("tell: no fault behind it", type(x, "b.."), 7);
    }

    // ---- promise 4

    private static void fault() {
        GraftRules x = new GraftRules();
        String[] typed = {"", "a", "a.", "a..", "a...", "A..", "a.c", "..", ".a", "aaaaaa.......", "aaaaaaa",
            "abababa", "aaaaaa.......a", "aaaaaa......a", "aaaaaa......", "aaaaaaZ", "a.a.a.a.a.a.b", "bb.b"};
        int[] answer = {-11, -11, -11, 0, -11, -11, -11, -11, -11, 1, -12, -12, -11, -12, -11, -11, -12, -11};
        int[] place = {0, 1, 2, NONE, 3, 0, 2, 1, 1, NONE, 6, 6, 13, 12, 12, 6, 12, 4};
        for (int i = 0; i < typed.length; i++) {
            is("tell " + typed[i], type(x, typed[i]), answer[i]);
            is("fault of " + typed[i], x.fault(), place[i]);
            is("fault again", x.fault(), place[i]);
        }
        is("fault is no deed, undone it stays", x.undo(2), 0);
        is("fault behind undo", x.fault(), 4);
        GraftRules y = new GraftRules();
        type(y, "a.?");
        y.drift(8);
        is("tell full", type(y, "?"), FULL);
        is("fault: full does not count", y.fault(), 2);
        y.take(0);
        is("tell now", y.tell(), -11);
        is("fault: of that", y.fault(), 0);
    }

    // ---- promise 5

    private static void told() {
        GraftRules x = with("a..", ".");
        x.feed('a');
        is("told 0", x.told(0), 2);
        is("told 1", x.told(1), 1);
        is("told 7", x.told(7), 0);
        x.write(0, code("a.."));
        x.write(1, 1);
        is("told 7 then", x.told(7), 2);
        is("told 8", x.told(8), 1);
        is("told 9", x.told(9), 2);
        is("told 10", x.told(10), OUTSIDE);
        is("told -1", x.told(-1), OUTSIDE);
        is("told lowest", x.told(LOW), OUTSIDE);
        is("told highest", x.told(HIGH), OUTSIDE);
    }

    private static void toldOfRules() {
        GraftRules x = new GraftRules();
        x.fate(0, 2, 1);
        is("one rule: critical", x.told(2), 1);
        is("one rule: bad", x.told(3), 0);
        is("one rule: sound", x.told(5), 1);
        x.fate(0, 3, 1);
        // aaa.... comes to a.a.a.. with the sign turned twice from the one place, three times from the other.
        is("with the other sign: critical", x.told(2), 1);
        is("with the other sign: bad", x.told(3), 1);
        is("with the other sign: first bad", x.told(4), code("aaa...."));
        is("with the other sign: sound", x.told(5), 0);
        x.clear();
        for (int p = 0; p < 8; p++) {
            x.fate(p, 1, 0);
        }
        is("all nothing: critical", x.told(2), 40);
        is("all nothing: bad", x.told(3), 0);
        is("all nothing: sound", x.told(5), 1);
        is("all nothing: own dual", x.told(6), 0);
        GraftRules y = new GraftRules();
        y.fate(0, 2, 3);
        y.fate(1, 2, 2);
        is("five are bad: critical", y.told(2), 5);
        is("five are bad", y.told(3), 5);
        is("five are bad: the first by code", y.told(4), code("a.a.a.."));
        rulesWithoutEnd();
        ownDual();
        eachAskedFirst();
    }

    private static void eachAskedFirst() {
        int[] withRule = {1, 1, code("aaa...."), 0};
        int[] cleared = {0, 0, NONE, 1};
        for (int what = 2; what <= 5; what++) {
            GraftRules x = new GraftRules();
            x.fate(0, 3, 1);
            is("asked first: told " + what, x.told(what), withRule[what - 2]);
            x.clear();
            is("cleared: told " + what, x.told(what), cleared[what - 2]);
            x.undo(1);
            is("undone: told " + what, x.told(what), withRule[what - 2]);
        }
        GraftRules y = new GraftRules();
        is("asked first: undoneBy 3", y.undoneBy(3), 0);
        y.fate(0, 1, 0);
        is("with a rule: undoneBy 3", y.undoneBy(3), 1);
        y.undo(1);
        is("undone: undoneBy 3", y.undoneBy(3), 0);
        is("asked behind that: count 3", y.count(3), 8);
    }

    private static void rulesWithoutEnd() {
        // a.aa... and a.ba... become each other for ever; neither has two places, so neither is critical.
        GraftRules x = with("a.aa...", "a.ba...");
        x.fate(1, 2, 3);
        x.fate(4, 2, 0);
        is("without end: steps", x.tree(0, 4), NONE);
        is("without end: steps of the other", x.tree(1, 4), NONE);
        is("without end: same", x.same(0, 1), NONE);
        is("without end: critical", x.told(2), 2);
        is("without end: bad", x.told(3), 1);
        is("without end: first bad", x.told(4), code("a.a.a.."));
    }

    private static void ownDual() {
        GraftRules x = new GraftRules();
        x.fate(0, 2, 1);
        x.fate(2, 3, 5);
        x.fate(4, 2, 3);
        is("own dual: two are free without a maker", x.told(6), 0);
        x.fate(7, 3, 6);
        is("own dual: each left and right", x.told(6), 1);
        x.clear();
        x.fate(0, 2, 2);
        x.fate(1, 2, 3);
        x.fate(4, 2, 5);
        x.fate(6, 2, 7);
        is("own dual: two on one side", x.told(6), 0);
    }

    // ---- promise 6

    private static void treeAsked() {
        GraftRules x = with("ab.a..b.b..", ".", "bb.b...");
        is("tree: code", x.tree(0, 0), code("ab.a..b.b.."));
        is("tree: sign", x.tree(0, 1), 2);
        is("tree: nodes", x.tree(0, 2), 5);
        is("tree: no places", x.tree(0, 3), 0);
        is("tree: mirrored", x.tree(0, 7), code("abb...ba..."));
        is("tree: height", x.tree(0, 8), 3);
        is("tree: steps", x.tree(0, 4), 0);
        is("tree: plain code", x.tree(0, 5), code("ab.a..b.b.."));
        is("tree: plain sign", x.tree(0, 6), 2);
        is("leaf: nodes", x.tree(1, 2), 0);
        is("leaf: mirrored", x.tree(1, 7), 0);
        is("leaf: height", x.tree(1, 8), 0);
        is("third: height", x.tree(2, 8), 3);
        is("third: mirrored", x.tree(2, 7), code("b.bb..."));
        x.fate(2, 1, 0);
        x.fate(3, 1, 0);
        x.fate(7, 1, 0);
        is("tree: places", x.tree(0, 3), 3);
        is("tree 3", x.tree(3, 0), UNKNOWN);
        is("tree -1", x.tree(-1, 0), UNKNOWN);
        is("tree lowest", x.tree(LOW, 0), UNKNOWN);
        is("tree highest", x.tree(HIGH, 0), UNKNOWN);
        is("tree what 9", x.tree(0, 9), OUTSIDE);
        is("tree what -1", x.tree(0, -1), OUTSIDE);
        is("tree what highest", x.tree(0, HIGH), OUTSIDE);
        is("tree unknown ahead of outside", x.tree(3, 9), UNKNOWN);
    }

    private static void treeMadePlain() {
        GraftRules x = with("aaa....", "ba.a...", "aa...");
        x.fate(0, 3, 1);
        is("plain: steps", x.tree(0, 4), 2);
        is("plain: code", x.tree(0, 5), code("a.a.a.."));
        is("plain: sign, turned twice", x.tree(0, 6), 2);
        is("plain: sign, turned once", x.tree(2, 6), 0);
        x.fate(5, 1, 0);
        is("plain elsewhere: steps", x.tree(1, 4), 0);
        x.fate(4, 1, 0);
        is("nothing: steps", x.tree(1, 4), 1);
        is("nothing: code", x.tree(1, 5), 0);
        is("nothing: sign", x.tree(1, 6), 1);
        is("it stays: code", x.tree(1, 0), code("ba.a..."));
        is("it stays: sign", x.tree(1, 1), 2);
    }

    private static void sixtySteps() {
        GraftRules x = longWays("baa...b.a..", "aaa...b.a..", "baa...a.a..");
        is("59 steps", x.tree(0, 4), 59);
        is("60 steps", x.tree(1, 4), 60);
        is("61 steps are no end", x.tree(2, 4), NONE);
        is("no end: code", x.tree(2, 5), NONE);
        is("no end: sign", x.tree(2, 6), NONE);
        is("60 steps: sign", x.tree(1, 6), 2);
        is("same of 61", x.same(2, 0), NONE);
        is("same of 61, the other way", x.same(0, 2), NONE);
        is("same of 61 with itself", x.same(2, 2), NONE);
        is("same of 60 with itself", x.same(1, 1), 1);
        is("plain of 61", x.plain(2), NOT);
        is("plain of 61 changes nothing", x.tree(2, 0), code("baa...a.a.."));
        x.step(2, 0);
        is("60 are left of 61", x.tree(2, 4), 60);
        is("plain of 60", x.plain(1), 60);
        is("plain then", x.tree(1, 3), 0);
    }

    // ---- promise 7

    private static void pattern() {
        GraftRules x = new GraftRules();
        x.fate(3, 3, 6);
        x.fate(1, 1, 6);
        x.fate(7, 2, 0);
        is("pattern 3: fate", x.pattern(3, 0), 3);
        is("pattern 3: goal", x.pattern(3, 1), 6);
        is("pattern 3: maker", x.pattern(3, 2), NONE);
        is("pattern 6: fate", x.pattern(6, 0), 0);
        is("pattern 6: goal", x.pattern(6, 1), NONE);
        is("pattern 6: maker", x.pattern(6, 2), 3);
        is("pattern 1: fate", x.pattern(1, 0), 1);
        is("pattern 1: goal", x.pattern(1, 1), NONE);
        is("pattern 7: fate", x.pattern(7, 0), 2);
        is("pattern 7: goal", x.pattern(7, 1), 0);
        is("pattern 0: maker", x.pattern(0, 2), 7);
        is("pattern 8", x.pattern(8, 0), UNKNOWN);
        is("pattern -1", x.pattern(-1, 0), UNKNOWN);
        is("pattern lowest", x.pattern(LOW, 0), UNKNOWN);
        is("pattern what 3", x.pattern(0, 3), OUTSIDE);
        is("pattern what -1", x.pattern(0, -1), OUTSIDE);
        is("pattern unknown ahead of outside", x.pattern(8, 3), UNKNOWN);
    }

    // ---- promise 8

    private static void same() {
        GraftRules x = with("aa...", "a.a..", "b..", "bb...", ".");
        is("same: none by no rule", x.same(0, 1), 0);
        is("same: with itself", x.same(0, 0), 1);
        x.fate(0, 2, 1);
        is("same by a rule", x.same(0, 1), 1);
        is("same by a rule, the other way", x.same(1, 0), 1);
        x.fate(0, 3, 1);
        is("not the same: the other sign", x.same(0, 1), 0);
        x.fate(0, 1, 0);
        is("not the same: nothing and a leaf", x.same(0, 4), 0);
        x.fate(6, 1, 0);
        is("the same: nothing and nothing", x.same(0, 3), 1);
        is("same 5 0", x.same(5, 0), UNKNOWN);
        is("same 0 5", x.same(0, 5), UNKNOWN);
        is("same -1 0", x.same(-1, 0), UNKNOWN);
        is("same 0 lowest", x.same(0, LOW), UNKNOWN);
    }

    // ---- promises 9 and 10

    private static void series(String name, GraftRules x, long[] counts, long[] undoing) {
        for (int n = 1; n <= 7; n++) {
            is(name + ": count " + n, x.count(n), counts[n - 1]);
            is(name + ": undoneBy " + n, x.undoneBy(n), undoing[n - 1]);
        }
    }

    private static void count() {
        GraftRules x = new GraftRules();
        series("free", x, new long[] {1, 2, 8, 40, 224, 1344, 8448}, new long[] {1, -2, 0, 0, 0, 0, 0});
        for (int p = 0; p < 8; p++) {
            x.fate(p, 1, 0);
        }
        series("all nothing", x, new long[] {1, 2, 0, 0, 0, 0, 0}, new long[] {1, -2, 8, -40, 224, -1344, 8448});
        x.clear();
        x.fate(0, 2, 1);
        series("one becomes", x, new long[] {1, 2, 7, 31, 154, 820, 4575}, new long[] {1, -2, 1, -1, 1, -1, 1});
        is("count 0", x.count(0), OUTSIDE);
        is("count 8", x.count(8), OUTSIDE);
        is("count -1", x.count(-1), OUTSIDE);
        is("count lowest", x.count(LOW), OUTSIDE);
        is("count highest", x.count(HIGH), OUTSIDE);
    }

    private static void undoneBy() {
        GraftRules x = new GraftRules();
        x.fate(3, 1, 0);
        x.fate(4, 2, 6);
        // Its own undoing, put in for x, must bring back x: tried here with the sums of powers.
        long[] f = new long[8];
        long[] g = new long[8];
        for (int n = 1; n <= 7; n++) {
            f[n] = x.count(n);
            g[n] = x.undoneBy(n);
        }
        long[] power = {1, 0, 0, 0, 0, 0, 0, 0};
        long[] sum = new long[8];
        for (int k = 1; k <= 7; k++) {
            long[] next = new long[8];
            for (int i = 0; i < 8; i++) {
                for (int j = 0; i + j < 8; j++) {
                    next[i + j] += power[i] * g[j];
                }
            }
            power = next;
            for (int n = 0; n < 8; n++) {
                sum[n] += f[k] * power[n];
            }
        }
        for (int n = 0; n < 8; n++) {
            is("undone: x to the " + n, sum[n], n == 1 ? 1 : 0);
        }
        is("undoneBy 0", x.undoneBy(0), OUTSIDE);
        is("undoneBy 8", x.undoneBy(8), OUTSIDE);
        is("undoneBy -1", x.undoneBy(-1), OUTSIDE);
        is("undoneBy lowest", x.undoneBy(LOW), OUTSIDE);
        is("undoneBy highest", x.undoneBy(HIGH), OUTSIDE);
    }

    // ---- promise 11

    private static void graft() {
        GraftRules x = with("ab...", "b.a..", ".");
        is("graft on the first leaf", x.graft(0, 0, 1), 3);
        is("graft on the middle leaf", x.graft(0, 1, 1), 4);
        is("graft on the last leaf", x.graft(0, 2, 1), 5);
        is("first", x.tree(3, 0), code("abb.a...."));
        is("middle", x.tree(4, 0), code("ab.b.a..."));
        is("last", x.tree(5, 0), code("ab..b.a.."));
        is("graft on a leaf alone", x.graft(2, 0, 1), 6);
        is("on a leaf alone", x.tree(6, 0), code("b.a.."));
        is("graft of a leaf", x.graft(0, 1, 2), 7);
        is("of a leaf", x.tree(7, 0), code("ab..."));
        is("what was grafted stays", x.tree(0, 0), code("ab..."));
        signsMultiply();
    }

    private static void signsMultiply() {
        GraftRules x = with("aa...", "aa...", "b..");
        x.fate(0, 3, 1);
        x.plain(0);
        is("sign -1", x.tree(0, 1), 0);
        is("graft 1 on -1", x.graft(0, 0, 2), 3);
        is("it is -1", x.tree(3, 1), 0);
        is("graft -1 on 1", x.graft(2, 1, 0), 4);
        is("it is -1, too", x.tree(4, 1), 0);
        is("graft -1 on -1", x.graft(0, 2, 0), 5);
        is("it is 1", x.tree(5, 1), 2);
    }

    private static void graftRefused() {
        GraftRules x = with("aaa....", "b.b.b..", "aa...", "aaaa.....");
        is("six nodes fit", x.graft(0, 3, 1), 4);
        is("six nodes", x.tree(4, 2), 6);
        is("a seventh does not", x.graft(0, 0, 3), NOT);
        is("graft 5", x.graft(5, 0, 0), UNKNOWN);
        is("graft on 5", x.graft(0, 0, 5), UNKNOWN);
        is("leaf 4 of 3 nodes", x.graft(0, 4, 0), UNKNOWN);
        is("leaf -1", x.graft(0, -1, 0), UNKNOWN);
        is("leaf lowest", x.graft(0, LOW, 0), UNKNOWN);
        is("leaf highest", x.graft(0, HIGH, 0), UNKNOWN);
        is("unknown ahead of not", x.graft(0, 4, 3), UNKNOWN);
        x.fate(0, 1, 0);
        x.plain(2);
        is("graft on nothing", x.graft(2, 0, 0), NOT);
        is("graft of nothing", x.graft(0, 0, 2), NOT);
        is("leaf 1 of nothing", x.graft(2, 1, 0), UNKNOWN);
        is("a refused one does not come", x.told(0), 5);
        x.drift(3);
        is("full ahead of not: nodes", x.graft(0, 0, 3), FULL);
        is("full ahead of not: nothing", x.graft(2, 0, 0), FULL);
        is("full", x.graft(1, 0, 1), FULL);
        is("unknown ahead of full", x.graft(0, 4, 0), UNKNOWN);
    }

    // ---- promise 12

    private static void step() {
        GraftRules x = with("aa.a..aa...", "aaa....");
        x.fate(0, 2, 1);
        // By nodes as typed: the first with its left branch, then the right branch with its own.
        is("places", x.tree(0, 3), 2);
        is("step at place 1", x.step(0, 1), 1);
        is("stepped", x.tree(0, 0), code("aa.a..a.a.."));
        is("step at place 0", x.step(0, 0), 1);
        is("stepped again", x.tree(0, 0), code("a.aa..a.a.."));
        is("step at the place it then has", x.step(0, 0), 0);
        is("no place is left", x.step(0, 0), OUTSIDE);
        is("step 1 2", x.step(1, 2), OUTSIDE);
        is("step 1 -1", x.step(1, -1), OUTSIDE);
        is("step 1 lowest", x.step(1, LOW), OUTSIDE);
        is("step 1 highest", x.step(1, HIGH), OUTSIDE);
        is("step 1 1", x.step(1, 1), 1);
        is("stepped at the second", x.tree(1, 0), code("aa.a..."));
        x.undo(1);
        is("step 1 0", x.step(1, 0), 1);
        is("stepped at the first", x.tree(1, 0), code("aa..a.."));
        is("step 2", x.step(2, 0), UNKNOWN);
        is("step -1", x.step(-1, 0), UNKNOWN);
        is("unknown ahead of outside", x.step(2, 9), UNKNOWN);
        placesLeftFirst();
        lastPlace();
    }

    private static void lastPlace() {
        GraftRules x = with("a.a.a.a.a.b..", "b.b.b.b.b.b..");
        x.fate(3, 2, 2);
        x.fate(7, 3, 6);
        is("last: places", x.tree(0, 3), 1);
        is("last: step", x.step(0, 0), 0);
        is("last: code", x.tree(0, 0), code("a.a.a.a.ab..."));
        is("five places", x.tree(1, 3), 5);
        is("the last of five", x.step(1, 4), 4);
        is("the last of five: code", x.tree(1, 0), code("b.b.b.b.bb..."));
        is("the last of five: sign", x.tree(1, 1), 0);
        is("no sixth", x.step(1, 5), OUTSIDE);
    }

    private static void placesLeftFirst() {
        GraftRules x = with("ba.a..b..");
        x.fate(1, 2, 2);
        x.fate(4, 2, 6);
        x.fate(5, 2, 0);
        x.fate(7, 1, 0);
        is("left, right, then the branch's own", x.tree(0, 3), 3);
        is("step at its left branch", x.step(0, 0), 2);
        is("the left branch's letter", x.tree(0, 0), code("bb.a..b.."));
        x.undo(1);
        is("step at its right branch", x.step(0, 1), 0);
        is("nothing", x.tree(0, 1), 1);
        x.undo(1);
        is("step at the branch's own", x.step(0, 2), 2);
        is("the branch turned", x.tree(0, 0), code("bab...b.."));
    }

    private static void stepsByFate() {
        GraftRules x = with("aa...", "aba....", "ba..bb...", "a.a..");
        x.fate(0, 2, 6);
        x.fate(2, 3, 5);
        x.fate(7, 2, 4);
        x.fate(1, 3, 3);
        is("left to left", x.step(0, 0), 0);
        is("left to left: code", x.tree(0, 0), code("bb..."));
        is("left to left: sign", x.tree(0, 1), 2);
        is("left to right", x.step(1, 0), 0);
        is("left to right: code", x.tree(1, 0), code("ba..a.."));
        is("left to right: the other sign", x.tree(1, 1), 0);
        is("right to left", x.step(2, 0), 1);
        is("right to left: code", x.tree(2, 0), code("baa..b..."));
        is("right to left: sign", x.tree(2, 1), 2);
        is("right to right", x.step(3, 0), 0);
        is("right to right: code", x.tree(3, 0), code("a.b.."));
        is("right to right: the other sign", x.tree(3, 1), 0);
        x.clear();
        x.fate(3, 3, 1);
        is("the other sign of -1", x.step(3, 0), 0);
        is("it is 1 again", x.tree(3, 1), 2);
        x.fate(4, 1, 0);
        is("all is nothing", x.step(2, 0), 0);
        is("nothing: code", x.tree(2, 0), 0);
        is("nothing: sign", x.tree(2, 1), 1);
        is("nothing: nodes", x.tree(2, 2), 0);
        is("nothing has no place", x.step(2, 0), OUTSIDE);
        is("nothing of -1", x.step(1, 0), 0);
        is("it is nothing, too", x.tree(1, 1), 1);
    }

    // ---- promise 13

    private static void plain() {
        GraftRules x = with("aaaa.....", "b.b..", "aab....");
        x.fate(0, 3, 1);
        is("plain: three steps", x.plain(0), 3);
        is("plain: code", x.tree(0, 0), code("a.a.a.a.."));
        is("plain: sign", x.tree(0, 1), 0);
        is("plain: places", x.tree(0, 3), 0);
        is("plain again", x.plain(0), 0);
        is("plain again: sign", x.tree(0, 1), 0);
        is("plain already", x.plain(1), 0);
        is("deeds, with no step too", x.told(9), 7);
        x.fate(2, 1, 0);
        is("plain by the first place, then nothing", x.plain(2), 2);
        is("nothing: code", x.tree(2, 0), 0);
        is("nothing: sign", x.tree(2, 1), 1);
        is("nothing is plain", x.plain(2), 0);
        is("tell behind it", type(x, "."), 3);
        is("its sign is 1", x.tree(3, 1), 2);
        x.tree(2, 1);
        is("drift behind it", x.drift(1), 5);
        is("the sign of that is 1", x.tree(4, 1), 2);
        is("undo both", x.undo(2), 3);
        is("plain 3", x.plain(3), UNKNOWN);
        is("plain -1", x.plain(-1), UNKNOWN);
        is("plain highest", x.plain(HIGH), UNKNOWN);
        GraftRules y = longWays("baa...a.a..");
        is("no end", y.plain(0), NOT);
        is("no end: it stays", y.tree(0, 0), code("baa...a.a.."));
        is("no end: no deed", y.told(9), 5);
        is("unknown without end", y.plain(1), UNKNOWN);
    }

    // ---- promise 14

    private static void mirror() {
        GraftRules x = with("ab.a..b.b..", ".", "aa...", "aa...");
        is("mirror", x.mirror(0), code("abb...ba..."));
        is("mirrored", x.tree(0, 0), code("abb...ba..."));
        is("mirror back", x.mirror(0), code("ab.a..b.b.."));
        is("mirror a leaf", x.mirror(1), 0);
        is("a leaf keeps its sign", x.tree(1, 1), 2);
        x.fate(0, 3, 1);
        x.plain(2);
        is("mirror of sign -1", x.mirror(2), code("aa..."));
        is("its sign", x.tree(2, 1), 0);
        x.fate(0, 1, 0);
        x.plain(3);
        is("mirror of nothing", x.mirror(3), 0);
        is("it is nothing", x.tree(3, 1), 1);
        is("each is a deed", x.told(9), 13);
        is("mirror 4", x.mirror(4), UNKNOWN);
        is("mirror -1", x.mirror(-1), UNKNOWN);
        is("mirror lowest", x.mirror(LOW), UNKNOWN);
    }

    // ---- promise 15

    private static void take() {
        GraftRules x = with("a..", "b..", "aa...", "bb...");
        x.fate(6, 3, 7);
        x.plain(3);
        is("take the second", x.take(1), 3);
        is("ahead of it", x.tree(0, 0), code("a.."));
        is("behind it", x.tree(1, 0), code("aa..."));
        is("the last", x.tree(2, 0), code("b.b.."));
        is("the last, its sign", x.tree(2, 1), 0);
        is("no more", x.tree(3, 0), UNKNOWN);
        is("take 3", x.take(3), UNKNOWN);
        is("take -1", x.take(-1), UNKNOWN);
        is("take highest", x.take(HIGH), UNKNOWN);
        is("take the last", x.take(2), 2);
        is("take the first", x.take(0), 1);
        is("what is left", x.tree(0, 0), code("aa..."));
        is("take all", x.take(0), 0);
        is("take none", x.take(0), UNKNOWN);
        is("told", x.told(0), 0);
        is("tell then", type(x, "b.."), 0);
        is("sign 1 then", x.tree(0, 1), 2);
        GraftRules full = with(".", ".", ".", ".", ".", ".", "a..", "b..");
        is("take from a full shelf", full.take(6), 7);
        is("the last one moves", full.tree(6, 0), code("b.."));
    }

    // ---- promise 16

    private static void fate() {
        GraftRules x = new GraftRules();
        is("fate 0 becomes 1", x.fate(0, 2, 1), 0);
        is("again with the other sign", x.fate(0, 3, 1), 2);
        is("fate then", x.pattern(0, 0), 3);
        is("goal then", x.pattern(0, 1), 1);
        is("becomes another one", x.fate(0, 2, 7), 3);
        is("1 is not made now", x.pattern(1, 2), NONE);
        is("7 is", x.pattern(7, 2), 0);
        is("nothing", x.fate(0, 1, 7), 2);
        is("7 is not made now", x.pattern(7, 2), NONE);
        is("no goal now", x.pattern(0, 1), NONE);
        is("free", x.fate(0, 0, 0), 1);
        is("free again, q is not looked at", x.fate(0, 0, 99), 0);
        is("nothing, q is not looked at", x.fate(0, 1, LOW), 0);
        is("seven deeds", x.told(9), 7);
        x.fate(2, 2, 3);
        is("free what is made", x.fate(3, 0, 0), 0);
        is("it is still made", x.pattern(3, 2), 2);
    }

    private static void fateRefused() {
        GraftRules x = new GraftRules();
        is("fate of 8", x.fate(8, 0, 0), UNKNOWN);
        is("fate of -1", x.fate(-1, 1, 0), UNKNOWN);
        is("goal 8", x.fate(0, 2, 8), UNKNOWN);
        is("goal -1", x.fate(0, 3, -1), UNKNOWN);
        is("fate 4", x.fate(0, 4, 1), OUTSIDE);
        is("fate -1", x.fate(0, -1, 1), OUTSIDE);
        is("fate 4, goal 8", x.fate(0, 4, 8), OUTSIDE);
        is("unknown ahead of outside", x.fate(8, 4, 0), UNKNOWN);
        is("goal is itself", x.fate(5, 2, 5), NOT);
        is("goal is itself, the other sign", x.fate(5, 3, 5), NOT);
        x.fate(1, 1, 0);
        is("goal is nothing", x.fate(0, 2, 1), NOT);
        x.fate(2, 2, 3);
        is("goal becomes another", x.fate(0, 2, 2), NOT);
        is("goal is made by another", x.fate(0, 3, 3), NOT);
        is("it is made: nothing", x.fate(3, 1, 0), NOT);
        is("it is made: becomes", x.fate(3, 2, 4), NOT);
        is("it is made: becomes with the other sign", x.fate(3, 3, 4), NOT);
        is("it is made: becomes its maker", x.fate(3, 2, 2), NOT);
        is("unknown ahead of not", x.fate(3, 2, 8), UNKNOWN);
        is("outside ahead of not", x.fate(3, 4, 2), OUTSIDE);
        is("two deeds", x.told(9), 2);
        is("0 is free", x.pattern(0, 0), 0);
    }

    // ---- promise 17

    private static void patterns(String name, GraftRules x, int[] fates, int[] goals) {
        for (int p = 0; p < 8; p++) {
            is(name + ": fate of " + p, x.pattern(p, 0), fates[p]);
            is(name + ": goal of " + p, x.pattern(p, 1), goals[p]);
        }
    }

    private static void dual() {
        GraftRules x = new GraftRules();
        x.fate(0, 2, 2);
        x.fate(3, 3, 7);
        x.fate(4, 3, 5);
        x.fate(6, 1, 0);
        int[] goals = {2, NONE, NONE, 7, 5, NONE, NONE, NONE};
        x.dual();
        patterns("dual", x, new int[] {3, 1, 0, 2, 3, 0, 0, 0}, goals);
        is("dual is a deed", x.told(9), 5);
        x.dual();
        patterns("dual of the dual", x, new int[] {2, 0, 0, 3, 3, 0, 1, 0}, goals);
        GraftRules y = new GraftRules();
        y.fate(0, 2, 1);
        is("dual of a sound one: bad", y.dual(), 0);
        is("dual: count", y.count(3), 1);
        is("dual: undone", y.undoneBy(4), -31);
        GraftRules z = new GraftRules();
        z.fate(0, 3, 1);
        // aaa.... alone is bad; all others with it are nothing either way.
        is("dual of a bad one: bad", z.dual(), 1);
        is("dual of a bad one: first bad", z.told(4), code("aaa...."));
    }

    // ---- promise 18

    private static void clear() {
        GraftRules x = with("a..");
        is("clear of none", x.clear(), 0);
        x.fate(0, 1, 0);
        x.fate(2, 2, 7);
        x.fate(3, 3, 5);
        is("clear", x.clear(), 3);
        for (int p = 0; p < 8; p++) {
            is("cleared: fate of " + p, x.pattern(p, 0), 0);
            is("cleared: goal of " + p, x.pattern(p, 1), NONE);
            is("cleared: maker of " + p, x.pattern(p, 2), NONE);
        }
        is("trees stay", x.told(0), 1);
        is("each is a deed", x.told(9), 6);
        is("clear undone", x.undo(1), 1);
        is("fates are back", x.pattern(3, 1), 5);
    }

    // ---- promise 19

    private static void drift() {
        GraftRules x = new GraftRules();
        x.seed(439);
        is("drift", x.drift(8), 8);
        int[] codes = {135, 2025, 99279, 159840, 918, 7857, 18, 9};
        for (int t = 0; t < 8; t++) {
            is("drift: tree " + t, x.tree(t, 0), codes[t]);
            is("drift: sign " + t, x.tree(t, 1), 2);
        }
        is("each is a deed", x.told(9), 8);
        int seedThen = x.seed(0);
        x.seed(seedThen);
        is("no room", x.drift(3), 8);
        is("no room: no deed", x.told(9), 8);
        is("no room: no draw", x.seed(seedThen), seedThen);
        is("undo three of them", x.undo(3), 5);
        is("the seed stays", x.seed(seedThen), seedThen);
        is("drift 0", x.drift(0), OUTSIDE);
        is("drift 9", x.drift(9), OUTSIDE);
        is("drift -1", x.drift(-1), OUTSIDE);
        is("drift highest", x.drift(HIGH), OUTSIDE);
        is("drift 2", x.drift(2), 7);
        is("drift: while there is room", x.drift(8), 8);
        is("deeds again", x.told(9), 8);
        driftFromEnds();
    }

    private static void driftFromEnds() {
        GraftRules x = new GraftRules();
        x.drift(3);
        is("drift from 0: tree 0", x.tree(0, 0), code("a.."));
        is("drift from 0: tree 1", x.tree(1, 0), code("bb.b.a..."));
        is("drift from 0: tree 2", x.tree(2, 0), code("a.a.."));
        GraftRules y = new GraftRules();
        y.seed(HIGH);
        y.drift(3);
        is("drift from the highest seed: tree 0", y.tree(0, 0), code("bab..aa...."));
        is("drift from the highest seed: tree 1", y.tree(1, 0), code("b.aa..a.."));
        is("drift from the highest seed: tree 2", y.tree(2, 0), code("b.a.a.."));
    }

    // ---- promise 20

    private static void undo() {
        GraftRules x = with("a..", "b..", "aa...");
        is("undo 0", x.undo(0), OUTSIDE);
        is("undo 21", x.undo(21), OUTSIDE);
        is("undo -1", x.undo(-1), OUTSIDE);
        is("undo lowest", x.undo(LOW), OUTSIDE);
        is("undo 4", x.undo(4), NOT);
        is("undo 20", x.undo(20), NOT);
        is("undo 1", x.undo(1), 2);
        is("undo 1: left", x.told(9), 2);
        is("undo 2", x.undo(2), 0);
        is("undo: nothing left", x.undo(1), NOT);
        is("undo is no deed", x.told(9), 0);
        type(x, "b.b..");
        x.feed('a');
        x.write(0, 5);
        x.seed(77);
        is("undo then", x.undo(1), 0);
        is("the text stays", x.told(1), 1);
        is("the book stays", x.told(7), 1);
        is("the seed stays", x.seed(1), 77);
    }

    private static void undoOfEachDeed() {
        GraftRules x = with("aa...", "ab.b...");
        x.fate(0, 3, 1);
        int[] marks = new int[10];
        marks[0] = mark(x);
        x.graft(0, 0, 1);
        marks[1] = mark(x);
        x.step(2, 0);
        marks[2] = mark(x);
        x.plain(0);
        marks[3] = mark(x);
        x.mirror(1);
        marks[4] = mark(x);
        x.take(0);
        marks[5] = mark(x);
        x.fate(2, 1, 0);
        marks[6] = mark(x);
        x.dual();
        marks[7] = mark(x);
        x.clear();
        marks[8] = mark(x);
        x.drift(1);
        marks[9] = mark(x);
        for (int i = 0; i < 9; i++) {
            DUE.isTrue("deed " + i + " changes something", marks[i] != marks[i + 1]);
        }
        is("twelve deeds", x.told(9), 12);
        for (int i = 8; i >= 0; i--) {
            x.undo(1);
            is("undone " + (9 - i), mark(x), marks[i]);
        }
        is("undo the fate", x.undo(1), 2);
        is("its pattern", x.pattern(0, 0), 0);
        is("undo both tells", x.undo(2), 0);
    }

    private static void undoKeepsTwenty() {
        GraftRules x = with("a..", "b..", "ab...");
        for (int i = 0; i < 19; i++) {
            x.mirror(2);
        }
        is("twenty are kept", x.told(9), 20);
        is("undo 20", x.undo(20), 2);
        is("the older ones are gone", x.undo(1), NOT);
        is("what stands", x.tree(1, 0), code("b.."));
        GraftRules y = with(".");
        for (int i = 1; i <= 47; i++) {
            y.take(0);
            type(y, i % 2 == 0 ? "a.." : "bb...");
        }
        is("behind many: twenty", y.told(9), 20);
        is("behind many: undo 4", y.undo(4), 1);
        is("behind many: what stood then", y.tree(0, 0), code("bb..."));
        is("behind many: undo 16", y.undo(16), 1);
        is("behind many: what stood first", y.tree(0, 0), code("bb..."));
        is("behind many: no more", y.undo(1), NOT);
    }

    // ---- promises 21 and 22

    private static void book() {
        GraftRules x = with("a..");
        is("write 1", x.write(1, 0), UNKNOWN);
        is("write -1", x.write(-1, 0), UNKNOWN);
        is("write highest", x.write(HIGH, 0), UNKNOWN);
        is("tear an empty one", x.tear(), 0);
        for (int i = 1; i <= 20; i++) {
            is("write " + i, x.write(0, code("a..")), i);
        }
        is("write: full", x.write(0, 9), FULL);
        is("write: unknown ahead of full", x.write(1, 9), UNKNOWN);
        is("entries", x.told(7), 20);
        is("none is wrong", x.told(8), NONE);
        is("write is no deed", x.told(9), 1);
        is("tear", x.tear(), 20);
        is("tear again", x.tear(), 0);
        is("torn: entries", x.told(7), 0);
        is("torn: wrong", x.told(8), NONE);
        is("any number may be a code", x.write(0, LOW), 1);
        is("it is wrong", x.told(8), 0);
        is("tear is no deed", x.told(9), 1);
    }

    private static void bookJudged() {
        GraftRules x = with("a..", "ba...", "b..");
        x.write(0, code("a.."));
        x.write(1, code("ba..."));
        x.write(2, code("b.."));
        is("all are right", x.told(8), NONE);
        x.mirror(1);
        is("the second is otherwise", x.told(8), 1);
        x.undo(1);
        is("it is right again", x.told(8), NONE);
        x.take(2);
        is("a tree that there is no more", x.told(8), 2);
        x.undo(1);
        x.take(0);
        is("numbers have moved", x.told(8), 0);
        x.undo(1);
        x.keep(0);
        x.mirror(1);
        x.write(0, 1);
        is("the first of two", x.told(8), 1);
        x.goBack(0);
        is("the book is in no image", x.told(7), 4);
        is("the last is wrong still", x.told(8), 3);
    }

    // ---- promise 23

    private static void seed() {
        GraftRules x = new GraftRules();
        is("seed at first", x.seed(5), 0);
        is("seed highest", x.seed(HIGH), 5);
        is("seed -1", x.seed(-1), OUTSIDE);
        is("seed lowest", x.seed(LOW), OUTSIDE);
        is("seed refused stays", x.seed(0), HIGH);
        is("seed 0", x.seed(0), 0);
        is("seed is no deed", x.told(9), 0);
        x.drift(1);
        is("seed behind draws", x.seed(0), 1406932606);
    }

    // ---- promises 24 and 25

    private static void images() {
        GraftRules x = with("aa...", "b..");
        is("keep 2", x.keep(2), UNKNOWN);
        is("keep -1", x.keep(-1), UNKNOWN);
        is("keep highest", x.keep(HIGH), UNKNOWN);
        is("refused: it can be undone", x.told(9), 2);
        is("goBack 2", x.goBack(2), UNKNOWN);
        is("goBack -1", x.goBack(-1), UNKNOWN);
        is("goBack: not kept", x.goBack(1), NOT);
        x.fate(0, 3, 1);
        x.plain(0);
        x.seed(99);
        is("keep 1", x.keep(1), 1);
        is("nothing can be undone", x.told(9), 0);
        is("undo", x.undo(1), NOT);
        is("the other one is not kept", x.goBack(0), NOT);
        int kept = mark(x);
        x.drift(2);
        x.clear();
        x.take(0);
        x.feed('a');
        x.write(0, 1);
        is("keep 0", x.keep(0), 1);
        int keptThen = mark(x);
        x.mirror(0);
        is("goBack 1", x.goBack(1), 1);
        is("nothing can be undone then", x.told(9), 0);
        is("shelf and fates are back", mark(x), kept);
        is("the sign is back", x.tree(0, 1), 0);
        is("the seed is back", x.seed(1), 99);
        is("the text stays", x.told(1), 1);
        is("the book stays", x.told(7), 1);
        x.dual();
        is("goBack 0", x.goBack(0), 1);
        is("that one is back", mark(x), keptThen);
        x.take(0);
        is("goBack 1 again", x.goBack(1), 1);
        is("it is as it was kept", mark(x), kept);
        is("keep over it", x.keep(0), 1);
        x.clear();
        x.goBack(0);
        is("the later one counts", mark(x), kept);
    }

    // ---- what all promises share

    private static void refusedChangesNothing() {
        GraftRules x = with("aa...", "aaaaaa.......");
        x.fate(0, 2, 1);
        x.feed('a');
        x.seed(12);
        int before = mark(x);
        x.feed(256);
        x.tree(9, 9);
        x.graft(1, 0, 1);
        x.graft(9, 0, 0);
        x.step(0, 1);
        x.step(9, 0);
        x.plain(9);
        x.mirror(9);
        x.take(9);
        x.fate(1, 1, 0);
        x.fate(0, 2, 0);
        x.fate(0, 7, 0);
        x.drift(0);
        x.undo(0);
        x.undo(4);
        x.write(9, 9);
        x.seed(-1);
        x.keep(2);
        x.goBack(0);
        is("refused: shelf and fates", mark(x), before);
        is("refused: deeds", x.told(9), 3);
        is("refused: text", x.told(1), 1);
        is("refused: book", x.told(7), 0);
        is("refused: seed", x.seed(0), 12);
    }

    private static void askedChangesNothing() {
        GraftRules x = with("aab....", "a.a.a..");
        x.fate(0, 3, 1);
        x.fate(3, 1, 0);
        x.feed('b');
        int before = mark(x);
        for (int what = 0; what < 10; what++) {
            x.told(what);
            x.tree(0, what);
            x.tree(1, what);
            x.pattern(what, what);
            x.count(what);
            x.undoneBy(what);
        }
        x.same(0, 1);
        x.fault();
        is("asked: shelf and fates", mark(x), before);
        is("asked: deeds", x.told(9), 4);
        is("asked: text", x.told(1), 1);
        is("asked: seed", x.seed(0), 0);
    }
}
