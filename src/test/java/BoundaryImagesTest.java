/** The boundary cases that promises 21 to 25 (the book, the seed, images) name, each sentence with a test of its own. */
public final class BoundaryImagesTest extends Bench {
    private static final Due DUE = new Due();

    public static void main(String[] args) {
        write();
        tear();
        seed();
        keep();
        goBack();
        DUE.end("BoundaryImagesTest");
    }

    private static void of(String sentence) {
        DUE.of("Promise " + sentence);
    }

    private static void is(String what, long got, long want) {
        DUE.is(what, got, want);
    }

    // ---- promise 21

    private static void write() {
        of("21: UNKNOWN");
        GraftRules x = with("a..", "b..");
        is("-1", x.write(-1, 9), UNKNOWN);
        is("2", x.write(2, 9), UNKNOWN);
        is("lowest", x.write(LOW, 9), UNKNOWN);
        is("highest", x.write(HIGH, 9), UNKNOWN);
        is("of no trees", new GraftRules().write(0, 9), UNKNOWN);
        is("entries", x.told(7), 0);
        of("21: FULL (20)");
        for (int i = 1; i <= 19; i++) {
            x.write(0, 9);
        }
        is("the twentieth", x.write(1, 18), 20);
        is("one more", x.write(1, 17), FULL);
        is("entries", x.told(7), 20);
        is("it is not there", x.told(8), NONE);
        is("UNKNOWN is ahead of it", x.write(2, 9), UNKNOWN);
        x.tear();
        is("behind tear() there is room", x.write(0, 9), 1);
        of("21: how many");
        GraftRules y = with("a..");
        for (int i = 1; i <= 20; i++) {
            is("entries", y.write(0, i), i);
            is("told", y.told(7), i);
        }
        anyCode();
        behindTheBook();
    }

    private static void anyCode() {
        of("21: An entry, whatever its code is");
        for (int code : new int[] {LOW, -1, 0, 8, 10, 1592137, HIGH, UNKNOWN}) {
            GraftRules x = with("a..");
            is("code " + code, x.write(0, code), 1);
            is("it is wrong: " + code, x.told(8), 0);
        }
        GraftRules y = with("a..", "bbbbbb.......", ".");
        y.write(0, 9);
        y.write(1, 1592136);
        y.write(2, 0);
        is("all are right", y.told(8), NONE);
    }

    private static void behindTheBook() {
        of("21: An entry behind THE BOOK");
        for (int wrong = 0; wrong < 20; wrong++) {
            GraftRules x = with("a..");
            for (int i = 0; i < 20; i++) {
                x.write(0, i >= wrong ? 18 : 9);
            }
            is("the first wrong one", x.told(8), wrong);
        }
    }

    // ---- promise 22

    private static void tear() {
        of("22: No BOOK: how much it had");
        GraftRules x = with("a..");
        is("an empty one", x.tear(), 0);
        x.write(0, 1);
        is("one entry", x.tear(), 1);
        is("nothing then", x.tear(), 0);
        is("entries", x.told(7), 0);
        is("wrong", x.told(8), NONE);
        for (int i = 0; i < 20; i++) {
            x.write(0, 1);
        }
        is("a full one", x.tear(), 20);
        x.write(0, 9);
        is("what was torn does not count", x.told(8), NONE);
        is("no deed", x.told(9), 1);
    }

    // ---- promise 23

    private static void seed() {
        of("23: THE SEED becomes v (0 .. 2147483647): what it was");
        GraftRules x = new GraftRules();
        is("at first", x.seed(HIGH), 0);
        is("the highest", x.seed(0), HIGH);
        is("the lowest", x.seed(1), 0);
        is("one", x.seed(HIGH - 1), 1);
        is("the highest but one", x.seed(5), HIGH - 1);
        of("23: OUTSIDE");
        is("-1", x.seed(-1), OUTSIDE);
        is("lowest", x.seed(LOW), OUTSIDE);
        is("it is as it was", x.seed(5), 5);
        is("no deed", x.told(9), 0);
    }

    // ---- promise 24

    private static void keep() {
        of("24: UNKNOWN");
        GraftRules x = with("a..");
        is("-1", x.keep(-1), UNKNOWN);
        is("2", x.keep(2), UNKNOWN);
        is("lowest", x.keep(LOW), UNKNOWN);
        is("highest", x.keep(HIGH), UNKNOWN);
        is("it can be undone still", x.told(9), 1);
        is("none is kept: 0", x.goBack(0), NOT);
        is("none is kept: 1", x.goBack(1), NOT);
        of("24: nothing can be undone then");
        is("keep", x.keep(0), 1);
        is("told", x.told(9), 0);
        is("undone", x.undo(1), NOT);
        GraftRules full = new GraftRules();
        for (int i = 0; i < 30; i++) {
            full.clear();
        }
        full.keep(1);
        is("behind more than twenty", full.told(9), 0);
        full.dual();
        is("one deed since", full.told(9), 1);
        is("it is undone", full.undo(1), 0);
        is("its pattern", full.pattern(0, 0), 0);
        is("no more", full.undo(1), NOT);
        keepOfNothing();
        keepAgain();
        keepIsACopy();
    }

    private static void keepOfNothing() {
        of("24: IMAGE i becomes what is so, of a new object");
        GraftRules x = new GraftRules();
        is("keep", x.keep(1), 1);
        x.drift(8);
        x.dual();
        is("goBack", x.goBack(1), 1);
        is("trees", x.told(0), 0);
        is("fates", x.clear(), 0);
        is("seed", x.seed(0), 0);
    }

    private static void keepAgain() {
        of("24: IMAGE i becomes what is so, when it was kept ahead");
        GraftRules x = with("a..");
        x.keep(0);
        x.keep(1);
        type(x, "b..");
        is("keep again", x.keep(0), 1);
        x.take(0);
        is("goBack", x.goBack(0), 1);
        is("trees", x.told(0), 2);
        is("goBack to the other", x.goBack(1), 1);
        is("trees of the other", x.told(0), 1);
    }

    private static void keepIsACopy() {
        of("24: IMAGE i is as it was, whatever comes then");
        GraftRules x = with("ab...", "b..");
        x.fate(2, 3, 3);
        x.seed(9);
        x.keep(0);
        String kept = shelfAndFates(x);
        x.mirror(0);
        x.take(1);
        x.fate(2, 1, 0);
        x.drift(3);
        x.undo(2);
        x.dual();
        x.goBack(0);
        DUE.isText("shelf and fates", shelfAndFates(x), kept);
        is("seed", seedOf(x), 9);
        x.plain(0);
        x.clear();
        x.seed(1);
        x.goBack(0);
        DUE.isText("shelf and fates, once more", shelfAndFates(x), kept);
        is("seed, once more", seedOf(x), 9);
    }

    // ---- promise 25

    private static void goBack() {
        of("25: UNKNOWN");
        GraftRules x = with("a..");
        is("-1", x.goBack(-1), UNKNOWN);
        is("2", x.goBack(2), UNKNOWN);
        is("lowest", x.goBack(LOW), UNKNOWN);
        is("highest", x.goBack(HIGH), UNKNOWN);
        of("25: NOT: it was not kept");
        is("0", x.goBack(0), NOT);
        is("1", x.goBack(1), NOT);
        is("it can be undone still", x.told(9), 1);
        x.keep(1);
        is("0, when 1 was", x.goBack(0), NOT);
        is("1, when 1 was", x.goBack(1), 1);
        GraftRules y = new GraftRules();
        y.keep(0);
        is("1, when 0 was", y.goBack(1), NOT);
        is("0, when 0 was", y.goBack(0), 1);
        of("25: nothing can be undone then");
        type(y, "a..");
        type(y, "b..");
        is("ahead of it", y.told(9), 2);
        y.goBack(0);
        is("told", y.told(9), 0);
        is("undone", y.undo(1), NOT);
        type(y, ".");
        is("one since", y.undo(2), NOT);
        is("one since, undone", y.undo(1), 0);
        fullAndEmpty();
        whatIsInNoImage();
    }

    private static void fullAndEmpty() {
        of("25: What is so becomes IMAGE i, from full to empty and from empty to full");
        GraftRules x = new GraftRules();
        x.keep(0);
        x.drift(8);
        x.keep(1);
        String full = shelfAndFates(x);
        x.goBack(0);
        is("no tree", x.told(0), 0);
        is("no tree 0", x.tree(0, 0), UNKNOWN);
        is("there is room", type(x, "b.."), 0);
        x.goBack(1);
        DUE.isText("full", shelfAndFates(x), full);
        is("there is no room", type(x, "b.."), FULL);
        is("going back twice", x.goBack(1), 1);
        DUE.isText("full again", shelfAndFates(x), full);
    }

    private static void whatIsInNoImage() {
        of("25: THE TEXT, the FAULT and THE BOOK are in no IMAGE");
        GraftRules x = with("a..");
        feedAll(x, "ab");
        x.write(0, 9);
        x.keep(0);
        x.tell();
        feedAll(x, "b..");
        x.write(0, 8);
        x.goBack(0);
        is("letters", x.told(1), 3);
        is("fault", x.fault(), 2);
        is("entries", x.told(7), 2);
        is("wrong", x.told(8), 1);
        is("the text", x.tell(), 1);
        is("its tree", x.tree(1, 0), 18);
    }
}
