/** Promises 6 to 13: births, birth, seed, item, same, trees, tree, place. */
public final class ProgramsTest {
    private static final Check C = new Check();
    private static final long[] TREES = {14L, 28L, 1260L, 7336L, 234864L, 2231040L, 57232112L, 716659776L,
        16149517216L, 238735514080L, 4998163007712L, 81816993880160L};

    public static void main(String[] args) {
        births();
        items();
        sameness();
        counts();
        smallTrees();
        places();
        C.end();
    }

    private static void birthIs(BreedingHouse h, int b, int... due) {
        for (int what = 0; what < due.length; what++) {
            C.is("birth(" + b + ", " + what + ")", h.birth(b, what), due[what]);
        }
    }

    private static void births() {
        BreedingHouse h = new BreedingHouse();
        int t = Check.tree(h, "(+ x (* 2 y))");
        birthIs(h, t, 0, 5, 0, -1, -1, -1, -1, 0, 3);
        int c = Check.code(h, "x y +");
        birthIs(h, c, 1, 3, 0, -1, -1, -1, -1, 0, 0);
        int m = Check.machine(h, "1:0101;2:1111");
        birthIs(h, m, 2, 2, 0, -1, -1, -1, -1, 0, 0);
        int n = Check.net(h, "5:01,12");
        birthIs(h, n, 3, 2, 0, -1, -1, -1, -1, 5, 0);
        birthIs(h, h.tree(3, 7), 0, 3, 1, -1, -1, -1, -1, 0, 3);
        birthIs(h, h.search(1), 0, 1, 1, -1, -1, -1, -1, 0, 1);
        birthIs(h, h.populate(0, 3, 1, 4, 3), 3, 8, 2, -1, -1, -1, -1, 4, 0);
        birthIs(h, h.edit(t, 3, 1), 0, 3, 3, t, -1, 3, 1, 0, 2);
        int changed = h.change(t, 0, 99);
        birthIs(h, changed, 0, 5, 3, t, -1, 0);
        C.is("seed of change", h.seed(changed), 99);
        birthIs(h, h.change(c, 0, 5), 1, 3, 3, c, -1, 0, -1);
        int regrown = h.change(t, 4, -3);
        C.is("how 4", h.birth(regrown, 5), 4);
        C.is("how 4 has no number", h.birth(regrown, 6), -1);
        C.is("seed of how 4", h.seed(regrown), -3);
        int crossed = h.cross(t, regrown, Long.MIN_VALUE);
        C.is("way of cross", h.birth(crossed, 2), 4);
        C.is("first parent", h.birth(crossed, 3), t);
        C.is("second parent", h.birth(crossed, 4), regrown);
        C.is("cross has no how", h.birth(crossed, 5), -1);
        C.is("cross has a number", h.birth(crossed, 6) >= 0, true);
        C.is("seed of cross", h.seed(crossed), Long.MIN_VALUE);
        birthIs(h, h.cross(Check.machine(h, "3:0000"), m, 6), 2, 1, 4, h.births() - 2, m, -1, -1);
        birthIs(h, h.simple(t), 0, 5, 5, t, -1, -1, -1, 0, 3);
        birthIs(h, h.minimal(t), 0, 1, 6, t, -1, -1, -1, 0, 1);
        birthIs(h, h.compile(t, 1), 1, 5, 7, t, -1, -1, -1, 0, 0);
        birthIs(h, h.least(m), 2, 2, 7, m, -1, -1, -1, 0, 0);
        birthIs(h, h.clean(n), 3, 2, 7, n, -1, -1, -1, 5, 0);
        C.is("seed of read", h.seed(t), 0);
        C.is("seed of edit", h.seed(h.edit(t, 0, 0)), 0);
        int before = h.births();
        h.tree(1, 0);
        C.is("births()", h.births(), before + 1);
        C.fails("birth(-1, 0)", Check.INDEX, () -> h.birth(-1, 0));
        C.fails("birth behind, wrong what", Check.INDEX, () -> h.birth(999, 99));
        C.fails("birth what 9", Check.ARGUMENT, () -> h.birth(0, 9));
        C.fails("birth what -1", Check.ARGUMENT, () -> h.birth(0, -1));
        C.fails("seed of none", Check.INDEX, () -> h.seed(h.births()));
    }

    private static void itemIs(BreedingHouse h, int b, int i, int... due) {
        for (int what = 0; what < 5; what++) {
            C.is("item(" + b + ", " + i + ", " + what + ")", h.item(b, i, what), what < due.length ? due[what] : 0);
        }
    }

    private static void items() {
        BreedingHouse h = new BreedingHouse();
        int t = Check.tree(h, "(? (< x -9) (@ 5 (+ s e)) n)");
        itemIs(h, t, 0, 20);
        itemIs(h, t, 1, 15);
        itemIs(h, t, 2, 1);
        itemIs(h, t, 3, 0, -9);
        itemIs(h, t, 4, 19);
        itemIs(h, t, 5, 0, 5);
        itemIs(h, t, 6, 10);
        itemIs(h, t, 7, 5);
        itemIs(h, t, 8, 6);
        itemIs(h, t, 9, 4);
        int c = Check.code(h, "-7 b2 x j1 y");
        itemIs(h, c, 0, 0, -7);
        itemIs(h, c, 1, 18, 2);
        itemIs(h, c, 2, 1);
        itemIs(h, c, 3, 17, 1);
        int m = Check.machine(h, "4:0101;-8:1010");
        itemIs(h, m, 0, 4, 0, 1, 0, 1);
        itemIs(h, m, 1, -8, 1, 0, 1, 0);
        int n = Check.net(h, "4:13,02");
        itemIs(h, n, 0, 1, 3);
        itemIs(h, n, 1, 0, 2);
        C.fails("no such node", Check.INDEX, () -> h.item(t, 10, 0));
        C.fails("no such node", Check.INDEX, () -> h.item(t, -1, 9));
        C.fails("no such birth", Check.INDEX, () -> h.item(9, 0, 0));
        C.fails("no such what", Check.ARGUMENT, () -> h.item(n, 0, 5));
        C.fails("no such what", Check.ARGUMENT, () -> h.item(n, 0, -1));
        C.fails("an empty net", Check.INDEX, () -> h.item(Check.net(h, "4:"), 0, 0));
    }

    private static void sameness() {
        BreedingHouse h = new BreedingHouse();
        int t = Check.tree(h, "(+ x 1)");
        C.is("same", h.same(t, Check.tree(h, "(+ x 01)")), true);
        C.is("itself", h.same(t, t), true);
        C.is("other constant", h.same(t, Check.tree(h, "(+ x 2)")), false);
        C.is("other sort", h.same(t, Check.tree(h, "(- x 1)")), false);
        C.is("other kind", h.same(Check.tree(h, "x"), Check.code(h, "x")), false);
        C.is("other lines", h.same(Check.net(h, "3:01"), Check.net(h, "4:01")), false);
        C.is("same net", h.same(Check.net(h, "3:01"), Check.net(h, "3:01")), true);
        C.is("empty nets", h.same(Check.net(h, "3:"), Check.net(h, "4:")), false);
        C.is("edges", h.same(Check.machine(h, "1:0000;1:0000"), Check.machine(h, "1:0000;1:0001")), false);
        C.fails("same", Check.INDEX, () -> h.same(0, 999));
        C.fails("same", Check.INDEX, () -> h.same(-1, 0));
    }

    private static void counts() {
        BreedingHouse h = new BreedingHouse();
        for (int size = 1; size <= 12; size++) {
            C.is("trees(" + size + ")", h.trees(size), TREES[size - 1]);
        }
        C.fails("trees(0)", Check.ARGUMENT, () -> h.trees(0));
        C.fails("trees(13)", Check.ARGUMENT, () -> h.trees(13));
    }

    /** All trees of sizes 1 to 3 and some of 4: each once, in the order, and with its own place. */
    private static void smallTrees() {
        for (int size = 1; size <= 4; size++) {
            long step = size == 4 ? 13 : 1;
            BreedingHouse h = new BreedingHouse();
            for (long place = 0; place < TREES[size - 1]; place += step) {
                if (h.births() > 590) {
                    h = new BreedingHouse();
                }
                int b = h.tree(size, place);
                C.is("size", h.birth(b, 1), size);
                C.is("place", h.place(b), place);
                if (place > 0) {
                    int a = h.tree(size, place - 1);
                    C.is("ahead " + Check.print(h, a), ahead(h, a, b, 0, 0, size, size), true);
                }
            }
        }
    }

    private static int end(BreedingHouse h, int b, int node) {
        int sort = h.item(b, node, 0);
        int at = node + 1;
        for (int k = sort < 7 ? 0 : sort < 10 ? 1 : sort < 20 ? 2 : 3; k > 0; k--) {
            at = end(h, b, at);
        }
        return at;
    }

    /** Whether the node i of a is ahead of the node j of b in the order, as its words go. */
    private static boolean ahead(BreedingHouse h, int a, int b, int i, int j, int m, int n) {
        return order(h, a, b, i, j) < 0 && m == n;
    }

    private static int order(BreedingHouse h, int a, int b, int i, int j) {
        int size = Integer.compare(end(h, a, i) - i, end(h, b, j) - j);
        if (size != 0) {
            return size;
        }
        int sort = Integer.compare(h.item(a, i, 0), h.item(b, j, 0));
        if (sort != 0 || h.item(a, i, 0) < 7) {
            return sort != 0 ? sort : Integer.compare(h.item(a, i, 1), h.item(b, j, 1));
        }
        int parts = h.item(a, i, 0) < 10 ? 1 : h.item(a, i, 0) < 20 ? 2 : 3;
        int p = i + 1;
        int q = j + 1;
        for (int k = 0; k < parts; k++) {
            int sizes = Integer.compare(end(h, a, p) - p, end(h, b, q) - q);
            if (sizes != 0) {
                return sizes;
            }
            p = end(h, a, p);
            q = end(h, b, q);
        }
        p = i + 1;
        q = j + 1;
        for (int k = 0; k < parts; k++) {
            int part = order(h, a, b, p, q);
            if (part != 0) {
                return part;
            }
            p = end(h, a, p);
            q = end(h, b, q);
        }
        return 0;
    }

    private static void places() {
        BreedingHouse h = new BreedingHouse();
        C.is("first", Check.print(h, h.tree(1, 0)), "0");
        C.is("constants", Check.print(h, h.tree(1, 9)), "9");
        C.is("x", Check.print(h, h.tree(1, 10)), "x");
        C.is("n", Check.print(h, h.tree(1, 13)), "n");
        C.is("~ 0", Check.print(h, h.tree(2, 0)), "(~ 0)");
        C.is("# n", Check.print(h, h.tree(2, 27)), "(# n)");
        C.is("last of 3", Check.print(h, h.tree(3, 1259)), "(@ n e)");
        C.is("last of 12", Check.print(h, h.tree(12, TREES[11] - 1)), "(? (| (= (@ n e) n) (= n n)) n n)");
        for (int size = 5; size <= 12; size++) {
            for (long k = 0; k < 20; k++) {
                long place = (TREES[size - 1] - 1) / 19 * k;
                C.is("place of " + size, h.place(h.tree(size, place)), place);
            }
        }
        C.is("(+ x (* 2 y))", h.place(Check.tree(h, "(+ x (* 2 y))")), 27759);
        C.is("a fold", h.place(Check.tree(h, "(@ 0 (+ s e))")), 195295);
        C.is("10 isn't in the order", h.place(Check.tree(h, "(+ x 10)")), -1);
        C.is("-1 isn't in the order", h.place(Check.tree(h, "-1")), -1);
        C.fails("no tree", Check.ARGUMENT, () -> h.place(Check.code(h, "x")));
        C.fails("too great", Check.ARGUMENT, () -> h.place(Check.tree(h, "(+ (+ (+ x y) (+ x y)) (+ (+ x y) (~ y)))")));
        C.fails("no birth", Check.INDEX, () -> h.place(-1));
        C.fails("tree(0, 0)", Check.ARGUMENT, () -> h.tree(0, 0));
        C.fails("tree(13, 0)", Check.ARGUMENT, () -> h.tree(13, 0));
        C.fails("tree(1, -1)", Check.ARGUMENT, () -> h.tree(1, -1));
        C.fails("tree(1, 14)", Check.ARGUMENT, () -> h.tree(1, 14));
        Check.fill(h, 600);
        C.fails("no room", Check.STATE, () -> h.tree(1, 0));
        C.fails("no such place first", Check.ARGUMENT, () -> h.tree(1, 14));
        C.is("600", h.births(), 600);
    }
}
