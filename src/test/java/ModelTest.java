import java.util.Random;

/** Runs of calls by chance (always the same ones), on the class and on the model at once. */
public final class ModelTest {
    private static final int RUNS = 400;
    private static final int CALLS = 512;
    private static final int[] ODD = {Integer.MIN_VALUE, -1000000001, -2, -1, 8, 9, 30, 1000, Integer.MAX_VALUE};

    private final Due due;
    private final int run;
    private final Random chance;
    private final GraftRules x = new GraftRules();
    private final Model m = new Model();
    private String waiting = "";

    private ModelTest(int run, Due due) {
        this.run = run;
        this.due = due;
        this.chance = new Random(run);
    }

    public static void main(String[] args) {
        Due due = new Due();
        for (int run = 0; run < RUNS && !due.hasWrong(); run++) {
            new ModelTest(run, due).go();
        }
        due.end("ModelTest");
    }

    private void go() {
        // Each run has its own liking, so that some runs have many rules and others full shelves.
        int rules = chance.nextInt(4);
        for (int call = 0; call < CALLS && !due.hasWrong(); call++) {
            if (!waiting.isEmpty()) {
                feedNext();
            } else if (chance.nextInt(10) < rules) {
                rule();
            } else if (chance.nextInt(5) < 2) {
                ask();
            } else {
                act();
            }
        }
    }

    private void check(String call, long got, long want) {
        due.is("run " + run + ": " + call, got, want);
    }

    private int upTo(int n) {
        return chance.nextInt(40) == 0 ? ODD[chance.nextInt(ODD.length)] : chance.nextInt(n);
    }

    private int someTree() {
        return upTo(Math.max(1, m.told(0) + chance.nextInt(10) / 9));
    }

    private void feedNext() {
        int letter = waiting.charAt(0);
        waiting = waiting.substring(1);
        check("feed " + letter, x.feed(letter), m.feed(letter));
        if (waiting.isEmpty() && chance.nextInt(20) != 0) {
            check("tell", x.tell(), m.tell());
            check("fault", x.fault(), m.fault());
        }
    }

    private String someTyped() {
        StringBuilder typed = new StringBuilder(".");
        int nodes = chance.nextInt(chance.nextInt(6) == 0 ? 9 : 7);
        for (int i = 0; i < nodes; i++) {
            int at = chance.nextInt(typed.length());
            if (typed.charAt(at) == '.') {
                typed.replace(at, at + 1, chance.nextBoolean() ? "a.." : "b..");
            }
        }
        switch (chance.nextInt(20)) {
            case 0: typed.setLength(chance.nextInt(typed.length() + 1)); break;
            case 1: typed.append(".ab".charAt(chance.nextInt(3))); break;
            case 2: typed.setCharAt(chance.nextInt(typed.length()), (char) chance.nextInt(256)); break;
            case 3: typed.append("..................................."); break;
            default: break;
        }
        return typed.toString();
    }

    private void rule() {
        switch (chance.nextInt(12)) {
            case 0: check("dual", x.dual(), m.dual()); break;
            case 1:
                if (chance.nextInt(6) == 0) {
                    check("clear", x.clear(), m.clear());
                }
                break;
            default:
                int p = upTo(8);
                int v = chance.nextInt(3) == 0 ? upTo(4) : 2 + chance.nextInt(2);
                int q = upTo(8);
                check("fate " + p + " " + v + " " + q, x.fate(p, v, q), m.fate(p, v, q));
                break;
        }
        for (int p = 0; p < 8; p++) {
            check("pattern " + p, x.pattern(p, 0), m.pattern(p, 0));
        }
    }

    private void ask() {
        int t = someTree();
        int u = someTree();
        int what;
        switch (chance.nextInt(8)) {
            case 0: case 1:
                what = upTo(10);
                check("told " + what, x.told(what), m.told(what));
                break;
            case 2: case 3: case 4:
                what = upTo(9);
                check("tree " + t + " " + what, x.tree(t, what), m.tree(t, what));
                break;
            case 5:
                int p = upTo(8);
                what = upTo(3);
                check("pattern " + p + " " + what, x.pattern(p, what), m.pattern(p, what));
                break;
            case 6: check("same " + t + " " + u, x.same(t, u), m.same(t, u)); break;
            default:
                int n = upTo(9);
                if (chance.nextBoolean()) {
                    check("count " + n, x.count(n), m.count(n));
                } else {
                    check("undoneBy " + n, x.undoneBy(n), m.undoneBy(n));
                }
                break;
        }
    }

    private void act() {
        int t = someTree();
        int u = someTree();
        int n;
        switch (chance.nextInt(16)) {
            case 0: case 1: waiting = someTyped(); break;
            case 2: case 3:
                n = upTo(7);
                check("graft " + t + " " + n + " " + u, x.graft(t, n, u), m.graft(t, n, u));
                break;
            case 4: case 5:
                n = upTo(3);
                check("step " + t + " " + n, x.step(t, n), m.step(t, n));
                break;
            case 6: check("plain " + t, x.plain(t), m.plain(t)); break;
            case 7: check("mirror " + t, x.mirror(t), m.mirror(t)); break;
            case 8: case 9: check("take " + t, x.take(t), m.take(t)); break;
            case 10:
                n = upTo(chance.nextBoolean() ? 3 : 10);
                check("drift " + n, x.drift(n), m.drift(n));
                break;
            case 11:
                n = upTo(chance.nextBoolean() ? 4 : 22);
                check("undo " + n, x.undo(n), m.undo(n));
                break;
            case 12: case 13:
                n = chance.nextInt(4) == 0 ? chance.nextInt() : m.tree(t, 0);
                check("write " + t + " " + n, x.write(t, n), m.write(t, n));
                break;
            default: actSeldom(); break;
        }
        check("told 0", x.told(0), m.told(0));
        check("told 9", x.told(9), m.told(9));
    }

    private void actSeldom() {
        int n = upTo(2);
        switch (chance.nextInt(8)) {
            case 0: case 1: check("keep " + n, x.keep(n), m.keep(n)); break;
            case 2: case 3: check("goBack " + n, x.goBack(n), m.goBack(n)); break;
            case 4: check("tear", x.tear(), m.tear()); break;
            case 5: check("tell", x.tell(), m.tell()); break;
            default:
                n = chance.nextInt();
                check("seed " + n, x.seed(n), m.seed(n));
                break;
        }
    }
}
