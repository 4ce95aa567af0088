/** What the tests share: the refusals, trees typed, rules by which it takes long, and pictures of an object. */
abstract class Bench {
    static final int NONE = -1, UNKNOWN = -1000000001, OUTSIDE = -1000000002, NOT = -1000000003, FULL = -1000000004;
    static final int LOW = Integer.MIN_VALUE, HIGH = Integer.MAX_VALUE;

    interface Call {
        long on(GraftRules x);
    }

    interface Setting {
        GraftRules made();
    }

    static void feedAll(GraftRules x, String typed) {
        for (int i = 0; i < typed.length(); i++) {
            x.feed(typed.charAt(i));
        }
    }

    static int type(GraftRules x, String typed) {
        feedAll(x, typed);
        return x.tell();
    }

    static GraftRules with(String... trees) {
        GraftRules x = new GraftRules();
        for (String tree : trees) {
            type(x, tree);
        }
        return x;
    }

    static int code(String typed) {
        return Integer.parseInt(typed.replace('.', '0').replace('a', '1').replace('b', '2'), 3);
    }

    /** The left comb of so many nodes, all of one letter. */
    static String comb(char letter, int nodes) {
        return String.valueOf(letter).repeat(nodes) + ".".repeat(nodes + 1);
    }

    /** The rules 0 to 4, 5 to 3, 6 to 1, 7 to 2, by which some trees take very long. */
    static GraftRules longWays(String... trees) {
        GraftRules x = with(trees);
        x.fate(0, 2, 4);
        x.fate(5, 2, 3);
        x.fate(6, 2, 1);
        x.fate(7, 2, 2);
        return x;
    }

    /** One number for the shelf and the fates. */
    static int mark(GraftRules x) {
        int mark = x.told(0);
        for (int t = 0; t < x.told(0); t++) {
            mark = 31 * mark + x.tree(t, 0);
            mark = 31 * mark + x.tree(t, 1);
        }
        for (int p = 0; p < 8; p++) {
            mark = 31 * mark + 10 * x.pattern(p, 0) + x.pattern(p, 1);
        }
        return mark;
    }

    /** The shelf and the fates, to be read. */
    static String shelfAndFates(GraftRules x) {
        StringBuilder all = new StringBuilder("trees");
        int trees = x.told(0);
        for (int t = 0; t < trees; t++) {
            all.append(' ').append(x.tree(t, 0)).append('/').append(x.tree(t, 1));
        }
        all.append(" fates");
        for (int p = 0; p < 8; p++) {
            all.append(' ').append(x.pattern(p, 0)).append('/').append(x.pattern(p, 1));
        }
        return all.toString();
    }

    static int seedOf(GraftRules x) {
        int seed = x.seed(0);
        x.seed(seed);
        return seed;
    }

    /** All that can be seen of an object without changing it. */
    static String picture(GraftRules x) {
        StringBuilder all = new StringBuilder(shelfAndFates(x));
        all.append(" told");
        for (int what = 0; what <= 9; what++) {
            all.append(' ').append(x.told(what));
        }
        return all.append(" fault ").append(x.fault()).append(" seed ").append(seedOf(x)).toString();
    }

    /** The same, with what undo(), the images and the text hold; the object is used up by it. */
    static String whole(GraftRules x) {
        StringBuilder all = new StringBuilder(picture(x));
        int deeds = x.told(9);
        if (deeds > 1) {
            all.append("\n one undone ").append(x.undo(1)).append(' ').append(shelfAndFates(x));
            all.append("\n all undone ").append(x.undo(deeds - 1)).append(' ').append(shelfAndFates(x));
        }
        for (int i = 0; i <= 1; i++) {
            all.append("\n image ").append(x.goBack(i)).append(' ').append(shelfAndFates(x));
            all.append(" seed ").append(seedOf(x));
        }
        if (x.told(0) == 8) {
            x.take(0);
        }
        int letters = x.told(1);
        all.append("\n text ").append(letters).append(' ').append(x.tell()).append(" fault ").append(x.fault());
        return all.toString();
    }
}
