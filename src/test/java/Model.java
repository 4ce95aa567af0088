import java.util.ArrayList;
import java.util.Arrays;
import java.util.List;

/**
 * The document once more, in another way than the class: trees are linked nodes, counting is done
 * by making all trees, the series is undone by Lagrange's formula. It is there to be compared with.
 */
final class Model {
    static final int NONE = -1, UNKNOWN = -1000000001, OUTSIDE = -1000000002, NOT = -1000000003, FULL = -1000000004;

    /** A node; a leaf is null. */
    record Node(int letter, Node left, Node right) { }

    record Signed(Node tree, int sign) { }

    record Place(String path, boolean right, int pattern) { }

    record Stand(List<Signed> shelf, int[] fates, int[] goals, long seed) { }

    record Entry(int t, int code) { }

    private static final List<List<Node>> TREES = new ArrayList<>();

    static {
        for (int n = 0; n <= 6; n++) {
            TREES.add(allTrees(n));
        }
    }

    private List<Signed> shelf = new ArrayList<>();
    private int[] fates = new int[8];
    private int[] goals = new int[8];
    private long seed = 0;
    private String text = "";
    private int faultAt = NONE;
    private final List<Stand> deeds = new ArrayList<>();
    private final List<Entry> book = new ArrayList<>();
    private final Stand[] images = new Stand[2];

    Model() {
        Arrays.fill(goals, NONE);
    }

    // ---- trees as linked nodes

    private static List<Node> allTrees(int nodes) {
        List<Node> made = new ArrayList<>();
        if (nodes == 0) {
            made.add(null);
            return made;
        }
        for (int left = 0; left < nodes; left++) {
            for (Node l : TREES.get(left)) {
                for (Node r : TREES.get(nodes - 1 - left)) {
                    made.add(new Node(0, l, r));
                    made.add(new Node(1, l, r));
                }
            }
        }
        return made;
    }

    static String typed(Node tree) {
        return tree == null ? "." : (tree.letter == 0 ? "a" : "b") + typed(tree.left) + typed(tree.right);
    }

    static int code(Node tree) {
        return Integer.parseInt(typed(tree).replace('.', '0').replace('a', '1').replace('b', '2'), 3);
    }

    static int nodes(Node tree) {
        return tree == null ? 0 : 1 + nodes(tree.left) + nodes(tree.right);
    }

    static int height(Node tree) {
        return tree == null ? 0 : 1 + Math.max(height(tree.left), height(tree.right));
    }

    static Node mirrored(Node tree) {
        return tree == null ? null : new Node(tree.letter, mirrored(tree.right), mirrored(tree.left));
    }

    static Node grafted(Node tree, int leaf, Node scion) {
        if (tree == null) {
            return scion;
        }
        int leftLeaves = nodes(tree.left) + 1;
        if (leaf < leftLeaves) {
            return new Node(tree.letter, grafted(tree.left, leaf, scion), tree.right);
        }
        return new Node(tree.letter, tree.left, grafted(tree.right, leaf - leftLeaves, scion));
    }

    private void findPlaces(Node tree, String path, List<Place> found) {
        if (tree == null) {
            return;
        }
        if (tree.left != null) {
            int p = 4 * tree.letter + 2 * tree.left.letter;
            if (fates[p] != 0) {
                found.add(new Place(path, false, p));
            }
        }
        if (tree.right != null) {
            int p = 4 * tree.letter + 2 * tree.right.letter + 1;
            if (fates[p] != 0) {
                found.add(new Place(path, true, p));
            }
        }
        findPlaces(tree.left, path + "l", found);
        findPlaces(tree.right, path + "r", found);
    }

    private List<Place> places(Node tree) {
        List<Place> found = new ArrayList<>();
        findPlaces(tree, "", found);
        return found;
    }

    private static Node replaced(Node tree, String path, boolean right, int goal) {
        if (!path.isEmpty()) {
            String rest = path.substring(1);
            return path.charAt(0) == 'l'
                ? new Node(tree.letter, replaced(tree.left, rest, right, goal), tree.right)
                : new Node(tree.letter, tree.left, replaced(tree.right, rest, right, goal));
        }
        Node first = right ? tree.left : tree.left.left;
        Node second = right ? tree.right.left : tree.left.right;
        Node third = right ? tree.right.right : tree.right;
        int lower = goal / 4;
        int upper = goal / 2 % 2;
        return goal % 2 == 1
            ? new Node(lower, first, new Node(upper, second, third))
            : new Node(lower, new Node(upper, first, second), third);
    }

    private Signed stepped(Signed tree, Place at) {
        switch (fates[at.pattern]) {
            case 1: return new Signed(null, 0);
            case 2: return new Signed(replaced(tree.tree, at.path, at.right, goals[at.pattern]), tree.sign);
            default: return new Signed(replaced(tree.tree, at.path, at.right, goals[at.pattern]), -tree.sign);
        }
    }

    /** All trees on the way to the plain one; null if it has no end. */
    private List<Signed> wayToPlain(Signed tree) {
        List<Signed> way = new ArrayList<>();
        way.add(tree);
        while (true) {
            Signed last = way.get(way.size() - 1);
            List<Place> places = places(last.tree);
            if (places.isEmpty()) {
                return way;
            }
            if (way.size() == 61) {
                return null;
            }
            way.add(stepped(last, places.get(0)));
        }
    }

    private Signed plainOf(Signed tree) {
        List<Signed> way = wayToPlain(tree);
        return way == null ? null : way.get(way.size() - 1);
    }

    private boolean isBad(Node tree) {
        List<Signed> ends = new ArrayList<>();
        for (Place place : places(tree)) {
            ends.add(plainOf(stepped(new Signed(tree, 1), place)));
        }
        return ends.contains(null) || !ends.get(0).equals(ends.get(1));
    }

    private boolean isTree(int t) {
        return t >= 0 && t < shelf.size();
    }

    private Stand standNow() {
        return new Stand(new ArrayList<>(shelf), fates.clone(), goals.clone(), seed);
    }

    private void putBack(Stand stand) {
        shelf = new ArrayList<>(stand.shelf);
        fates = stand.fates.clone();
        goals = stand.goals.clone();
    }

    private void deed() {
        deeds.add(standNow());
        if (deeds.size() > 20) {
            deeds.remove(0);
        }
    }

    // ---- the face

    int feed(int letter) {
        if (letter < 0 || letter > 255) {
            return OUTSIDE;
        }
        if (text.length() == 30) {
            return FULL;
        }
        text += (char) letter;
        return text.length();
    }

    private int readAt;
    private int readNodes;
    private int faultNumber;

    private Node read() {
        char c = readAt < text.length() ? text.charAt(readAt) : '?';
        if (c != '.' && c != 'a' && c != 'b') {
            faultNumber = 1;
        } else if (c != '.' && ++readNodes == 7) {
            faultNumber = 2;
        }
        if (faultNumber != 0) {
            return null;
        }
        readAt++;
        if (c == '.') {
            return null;
        }
        Node left = read();
        Node right = faultNumber != 0 ? null : read();
        return new Node(c - 'a', left, right);
    }

    int tell() {
        if (shelf.size() == 8) {
            return FULL;
        }
        readAt = 0;
        readNodes = 0;
        faultNumber = 0;
        Node tree = read();
        if (faultNumber == 0 && readAt < text.length()) {
            faultNumber = 1;
        }
        text = "";
        faultAt = faultNumber == 0 ? NONE : readAt;
        if (faultNumber != 0) {
            return -10 - faultNumber;
        }
        deed();
        shelf.add(new Signed(tree, 1));
        return shelf.size() - 1;
    }

    int fault() {
        return faultAt;
    }

    int told(int what) {
        List<Node> critical = new ArrayList<>();
        List<Integer> bad = new ArrayList<>();
        if (what >= 2 && what <= 5) {
            for (Node tree : TREES.get(3)) {
                if (places(tree).size() == 2) {
                    critical.add(tree);
                    if (isBad(tree)) {
                        bad.add(code(tree));
                    }
                }
            }
            bad.sort(null);
        }
        switch (what) {
            case 0: return shelf.size();
            case 1: return text.length();
            case 2: return critical.size();
            case 3: return bad.size();
            case 4: return bad.isEmpty() ? NONE : bad.get(0);
            case 5: return bad.isEmpty() ? 1 : 0;
            case 6: return Arrays.equals(dualFates(), fates) ? 1 : 0;
            case 7: return book.size();
            case 8:
                for (Entry entry : book) {
                    if (!isTree(entry.t) || code(shelf.get(entry.t).tree) != entry.code) {
                        return book.indexOf(entry);
                    }
                }
                return NONE;
            case 9: return deeds.size();
            default: return OUTSIDE;
        }
    }

    int tree(int t, int what) {
        if (!isTree(t)) {
            return UNKNOWN;
        }
        Signed tree = shelf.get(t);
        List<Signed> way = wayToPlain(tree);
        switch (what) {
            case 0: return code(tree.tree);
            case 1: return tree.sign + 1;
            case 2: return nodes(tree.tree);
            case 3: return places(tree.tree).size();
            case 4: return way == null ? NONE : way.size() - 1;
            case 5: return way == null ? NONE : code(way.get(way.size() - 1).tree);
            case 6: return way == null ? NONE : way.get(way.size() - 1).sign + 1;
            case 7: return code(mirrored(tree.tree));
            case 8: return height(tree.tree);
            default: return OUTSIDE;
        }
    }

    private int makerOf(int q) {
        for (int p = 0; p < 8; p++) {
            if (goals[p] == q) {
                return p;
            }
        }
        return NONE;
    }

    int pattern(int p, int what) {
        if (p < 0 || p > 7) {
            return UNKNOWN;
        }
        switch (what) {
            case 0: return fates[p];
            case 1: return goals[p];
            case 2: return makerOf(p);
            default: return OUTSIDE;
        }
    }

    int same(int t, int u) {
        if (!isTree(t) || !isTree(u)) {
            return UNKNOWN;
        }
        Signed one = plainOf(shelf.get(t));
        Signed two = plainOf(shelf.get(u));
        return one == null || two == null ? NONE : one.equals(two) ? 1 : 0;
    }

    long count(int n) {
        if (n < 1 || n > 7) {
            return OUTSIDE;
        }
        long plain = 0;
        for (Node tree : TREES.get(n - 1)) {
            plain += places(tree).isEmpty() ? 1 : 0;
        }
        return plain;
    }

    /** The n-th is what stands at x to the n-1 in the n-th power of x over the series, by n. */
    long undoneBy(int n) {
        if (n < 1 || n > 7) {
            return OUTSIDE;
        }
        long[] inverse = new long[7];
        inverse[0] = 1;
        for (int i = 1; i < 7; i++) {
            for (int j = 1; j <= i; j++) {
                inverse[i] -= count(j + 1) * inverse[i - j];
            }
        }
        long[] power = {1, 0, 0, 0, 0, 0, 0};
        for (int k = 0; k < n; k++) {
            long[] next = new long[7];
            for (int i = 0; i < 7; i++) {
                for (int j = 0; i + j < 7; j++) {
                    next[i + j] += power[i] * inverse[j];
                }
            }
            power = next;
        }
        return power[n - 1] / n;
    }

    int graft(int t, int i, int u) {
        if (!isTree(t) || !isTree(u) || i < 0 || i > nodes(shelf.get(t).tree)) {
            return UNKNOWN;
        }
        Signed stock = shelf.get(t);
        Signed scion = shelf.get(u);
        if (shelf.size() == 8) {
            return FULL;
        }
        if (nodes(stock.tree) + nodes(scion.tree) > 6 || stock.sign * scion.sign == 0) {
            return NOT;
        }
        deed();
        shelf.add(new Signed(grafted(stock.tree, i, scion.tree), stock.sign * scion.sign));
        return shelf.size() - 1;
    }

    int step(int t, int k) {
        if (!isTree(t)) {
            return UNKNOWN;
        }
        List<Place> places = places(shelf.get(t).tree);
        if (k < 0 || k >= places.size()) {
            return OUTSIDE;
        }
        deed();
        shelf.set(t, stepped(shelf.get(t), places.get(k)));
        return places(shelf.get(t).tree).size();
    }

    int plain(int t) {
        if (!isTree(t)) {
            return UNKNOWN;
        }
        List<Signed> way = wayToPlain(shelf.get(t));
        if (way == null) {
            return NOT;
        }
        deed();
        shelf.set(t, way.get(way.size() - 1));
        return way.size() - 1;
    }

    int mirror(int t) {
        if (!isTree(t)) {
            return UNKNOWN;
        }
        deed();
        Signed tree = shelf.get(t);
        shelf.set(t, new Signed(mirrored(tree.tree), tree.sign));
        return code(shelf.get(t).tree);
    }

    int take(int t) {
        if (!isTree(t)) {
            return UNKNOWN;
        }
        deed();
        shelf.remove(t);
        return shelf.size();
    }

    int fate(int p, int v, int q) {
        boolean becomes = v == 2 || v == 3;
        if (p < 0 || p > 7 || becomes && (q < 0 || q > 7)) {
            return UNKNOWN;
        }
        if (v < 0 || v > 3) {
            return OUTSIDE;
        }
        if (becomes && (q == p || fates[q] != 0 || makerOf(q) != NONE && makerOf(q) != p)) {
            return NOT;
        }
        if (v != 0 && makerOf(p) != NONE) {
            return NOT;
        }
        deed();
        int before = fates[p];
        fates[p] = v;
        goals[p] = becomes ? q : NONE;
        return before;
    }

    private int[] dualFates() {
        int[] dual = new int[8];
        for (int p = 0; p < 8; p++) {
            if (goals[p] != NONE) {
                boolean turned = p % 2 == goals[p] % 2;
                dual[p] = turned ? 5 - fates[p] : fates[p];
            } else if (fates[p] == 0 && makerOf(p) == NONE) {
                dual[p] = 1;
            }
        }
        return dual;
    }

    int dual() {
        deed();
        fates = dualFates();
        return told(3);
    }

    int clear() {
        deed();
        int bound = 0;
        for (int fate : fates) {
            bound += fate != 0 ? 1 : 0;
        }
        fates = new int[8];
        Arrays.fill(goals, NONE);
        return bound;
    }

    private int draw(int n) {
        seed = (seed * 1103515245L + 12345L) % 2147483648L;
        return (int) (seed / 65536 % n);
    }

    int drift(int n) {
        if (n < 1 || n > 8) {
            return OUTSIDE;
        }
        for (int i = 0; i < n; i++) {
            if (shelf.size() < 8) {
                deed();
                int nodes = draw(5) + 1;
                Node tree = new Node(draw(2), null, null);
                for (int k = 1; k < nodes; k++) {
                    int leaf = draw(k + 1);
                    tree = grafted(tree, leaf, new Node(draw(2), null, null));
                }
                shelf.add(new Signed(tree, 1));
            }
        }
        return shelf.size();
    }

    int undo(int n) {
        if (n < 1 || n > 20) {
            return OUTSIDE;
        }
        if (n > deeds.size()) {
            return NOT;
        }
        for (int i = 0; i < n; i++) {
            putBack(deeds.remove(deeds.size() - 1));
        }
        return shelf.size();
    }

    int write(int t, int code) {
        if (!isTree(t)) {
            return UNKNOWN;
        }
        if (book.size() == 20) {
            return FULL;
        }
        book.add(new Entry(t, code));
        return book.size();
    }

    int tear() {
        int had = book.size();
        book.clear();
        return had;
    }

    int seed(int v) {
        if (v < 0) {
            return OUTSIDE;
        }
        int before = (int) seed;
        seed = v;
        return before;
    }

    int keep(int i) {
        if (i < 0 || i > 1) {
            return UNKNOWN;
        }
        images[i] = standNow();
        deeds.clear();
        return 1;
    }

    int goBack(int i) {
        if (i < 0 || i > 1) {
            return UNKNOWN;
        }
        if (images[i] == null) {
            return NOT;
        }
        putBack(images[i]);
        seed = images[i].seed;
        deeds.clear();
        return 1;
    }
}
