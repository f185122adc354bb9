/** Promises 48 to 61: search, simple, rows, row, proves, equal, witness, minimal, robust, compile and the rest. */
public final class UnderstandingTest {
    private static final Check C = new Check();

    public static void main(String[] args) {
        searches();
        rules();
        simples();
        proofs();
        equalTrees();
        equalMachines();
        equalNets();
        minimals();
        robustness();
        codeOfTrees();
        treesOfCode();
        leastMachines();
        nets();
        C.end();
    }

    private static void searches() {
        BreedingHouse h = new BreedingHouse();
        C.is("without cases the first", Check.print(h, h.search(3)), "0");
        h.add(9, 9, 9, 7, 1, true);
        C.is("hidden ones don't count", Check.print(h, h.search(1)), "0");
        h.add(1, 0, 0, 2, 1, false);
        h.add(2, 0, 0, 4, 1, false);
        C.is("none of size 1", h.search(1), -1);
        int before = h.births();
        C.is("none of size 2", h.search(2), -1);
        C.is("none is made", h.births(), before);
        int b = h.search(5);
        C.is("x + x", Check.print(h, b), "(+ x x)");
        C.is("way", h.birth(b, 2), 1);
        h.add(3, 1, 0, 5, 1, false);
        C.is("one more case", Check.print(h, h.search(5)), "(+ x (- x y))");
        h.drop(3);
        Check.put(h, 6, 5);
        h.add(4, 4, 4, 8, 1, false);
        C.is("ahead of 2 * x", Check.print(h, h.search(5)), "(+ x x)");
        BreedingHouse g = new BreedingHouse();
        Check.put(g, 7, 8, 9);
        g.add(0, 0, 0, 8, 1, false);
        Check.put(g, 5, 4, 3);
        g.add(0, 0, 0, 4, 1, false);
        C.is("of the row", Check.print(g, g.search(5)), "(# 1)");
        g.add(0, 0, 0, 0, 1, false);
        C.is("a fault is no answer", g.search(2), -1);
        BreedingHouse row = new BreedingHouse();
        Check.put(row, 17, 8);
        row.add(0, 0, 0, 17, 1, false);
        C.is("the first of the row", Check.print(row, row.search(2)), "(# 0)");
        Check.put(row, 6, 34);
        row.add(1, 0, 0, 34, 1, false);
        C.is("by x", Check.print(row, row.search(2)), "(# x)");
        BreedingHouse q = new BreedingHouse();
        q.add(Integer.MIN_VALUE, -1, 0, Integer.MIN_VALUE, 1, false);
        q.add(7, 2, 0, 3, 1, false);
        q.add(-7, 2, 0, -3, 1, false);
        C.is("towards 0", Check.print(q, q.search(3)), "(/ x y)");
        BreedingHouse z = new BreedingHouse();
        z.add(7, 4, 0, 3, 1, false);
        z.add(5, 0, 0, 0, 1, false);
        z.add(9, 5, 0, 4, 1, false);
        C.is("a rest of nothing is no 0", z.search(4), -1);
        C.is("nor a quotient", Check.print(z, z.search(5)), "(- y (/ x 6))");
        C.fails("size 0", Check.ARGUMENT, () -> h.search(0));
        C.fails("size 6", Check.ARGUMENT, () -> h.search(6));
        Check.fill(h, 600);
        C.fails("no room", Check.STATE, () -> h.search(1));
        C.fails("size first", Check.ARGUMENT, () -> h.search(6));
        foundTwice();
    }

    /** What search finds is held against all trees of a size, run one by one. */
    private static void foundTwice() {
        for (int seed = 1; seed < 9; seed++) {
            BreedingHouse h = new BreedingHouse();
            h.add(seed, 3, 2, seed * seed % 7, 1, false);
            h.put(seed);
            h.add(2, seed, 5, 4 - seed, 1, false);
            int found = h.search(3);
            long due = -1;
            int dueSize = 0;
            for (int size = 1; size <= 3 && due < 0; size++) {
                BreedingHouse g = new BreedingHouse();
                for (long place = 0; place < h.trees(size) && due < 0; place++) {
                    if (g.births() % 600 == 0) {
                        g = new BreedingHouse();
                        g.add(seed, 3, 2, seed * seed % 7, 1, false);
                        g.put(seed);
                        g.add(2, seed, 5, 4 - seed, 1, false);
                    }
                    int b = g.tree(size, place);
                    boolean fold = g.item(b, 0, 0) == 19;
                    due = !fold && g.hits(b, false) == 2 ? place : -1;
                    dueSize = size;
                }
            }
            C.is("found", found >= 0, due >= 0);
            if (found >= 0) {
                C.is("size", h.birth(found, 1), dueSize);
                C.is("place", h.place(found), due);
            }
        }
    }

    private static void rule(String text, int number, String due) {
        BreedingHouse h = new BreedingHouse();
        int b = Check.tree(h, text);
        int s = h.simple(b);
        C.is(text, Check.print(h, s), due);
        if (number < 0) {
            C.is("rows of " + text, h.rows(), 0);
        } else {
            C.is("rule of " + text, h.row(h.rows() - 1, 1), number);
        }
        C.is("proof of " + text, h.proves(b, s), true);
    }

    private static void rules() {
        rule("(~ 99)", 0, "-99");
        rule("(+ 90 9)", 0, "99");
        rule("(+ 90 10)", -1, "(+ 90 10)");
        rule("(- -90 9)", 0, "-99");
        rule("(- -90 10)", -1, "(- -90 10)");
        rule("(* 9 11)", 0, "99");
        rule("(* 10 10)", -1, "(* 10 10)");
        rule("(/ -7 2)", 0, "-3");
        rule("(% -7 2)", 0, "-1");
        rule("(/ 7 0)", -1, "(/ 7 0)");
        rule("(% 7 0)", -1, "(% 7 0)");
        rule("(# 1)", -1, "(# 1)");
        rule("(+ x 0)", 1, "x");
        rule("(+ 0 x)", 1, "x");
        rule("(- x 0)", 1, "x");
        rule("(- 0 x)", -1, "(- 0 x)");
        rule("(* x 1)", 1, "x");
        rule("(* 1 x)", 1, "x");
        rule("(/ x 1)", 1, "x");
        rule("(/ 1 x)", -1, "(/ 1 x)");
        rule("(% 1 x)", -1, "(% 1 x)");
        rule("(@ x 0)", -1, "(@ x 0)");
        rule("(~ (~ x))", 2, "x");
        rule("(? (! (! (< x y))) z n)", 2, "(? (< x y) z n)");
        rule("(? (< 1 2) x y)", 3, "x");
        rule("(? (< 2 2) x y)", 3, "y");
        rule("(? (= 2 2) x y)", 3, "x");
        rule("(? (= 1 2) x y)", 3, "y");
        rule("(? (< x y) (# z) (# z))", 4, "(# z)");
        rule("(? (< (# x) y) z z)", -1, "(? (< (# x) y) z z)");
        rule("(- (+ x y) (+ x y))", 5, "0");
        rule("(- (# x) (# x))", -1, "(- (# x) (# x))");
        rule("(? (= (* x y) (* x y)) z n)", 5, "z");
        rule("(? (< x x) z n)", 5, "n");
        rule("(? (< (/ x y) (/ x y)) z n)", -1, "(? (< (/ x y) (/ x y)) z n)");
        rule("(? (! (< x y)) z n)", 6, "(? (< x y) n z)");
        rule("(? (! (< 1 2)) x y)", 3, "y");
        rule("(? (! (= x x)) y z)", 5, "z");
        rule("(? (& (< 1 2) (= x x)) y z)", -1, "(? (& (< 1 2) (= x x)) y z)");
        rule("(? (| (= x x) (< 1 2)) y z)", -1, "(? (| (= x x) (< 1 2)) y z)");
        rule("(? (< 1 x) y z)", -1, "(? (< 1 x) y z)");
        rule("(? (= x 1) y z)", -1, "(? (= x 1) y z)");
        rule("(* 0 x)", 7, "0");
        rule("(* x 0)", 7, "0");
        rule("(* 0 (@ x s))", -1, "(* 0 (@ x s))");
        rule("(* (% x y) 0)", -1, "(* (% x y) 0)");
        rule("(% x 1)", 8, "0");
        rule("(% (/ x y) 1)", -1, "(% (/ x y) 1)");
        rule("(@ (+ x 0) (+ s (* 0 e)))", 1, "(@ x s)");
    }

    private static void simples() {
        BreedingHouse h = new BreedingHouse();
        C.is("ahead of one", h.rows(), 0);
        C.is("ahead of one", h.row(0, 0), -1);
        int b = Check.tree(h, "(+ (* 1 x) (- y y))");
        int s = h.simple(b);
        C.is("simple", Check.print(h, s), "x");
        int[] due = {4, 5, 1, 1, 0, 1};
        C.is("rows", h.rows(), 3);
        for (int k = 0; k < 6; k++) {
            C.is("row", h.row(k / 2, k % 2), due[k]);
        }
        C.is("row 3", h.row(3, 0), -1);
        C.is("row -1", h.row(-1, 0), -1);
        C.is("what 2", h.row(0, 2), -1);
        C.is("what -1", h.row(0, -1), -1);
        C.fails("no tree", Check.ARGUMENT, () -> h.simple(Check.code(h, "x")));
        C.fails("no birth", Check.INDEX, () -> h.simple(-1));
        C.is("the rows stay", h.rows(), 3);
        h.equal(b, s);
        C.is("equal() leaves them", h.rows(), 3);
        int x = Check.tree(h, "x");
        Check.fill(h, 600);
        C.fails("no room", Check.STATE, () -> h.simple(x));
        C.is("the rows stay", h.rows(), 3);
        BreedingHouse g = new BreedingHouse();
        int t = Check.tree(g, "(? (! (= x y)) (? (! (= x y)) 1 2) (? (= x y) 2 1))");
        C.is("the greatest node first", Check.print(g, g.simple(t)), "(? (= x y) 2 1)");
        C.is("rows", g.rows(), 2);
        C.is("first", g.row(0, 0), 5);
        C.is("by rule 6", g.row(0, 1), 6);
        C.is("then", g.row(1, 0), 0);
        C.is("the least rule there", g.row(1, 1), 4);
        int u = Check.tree(g, "(? (< z n) (? (! (= x y)) 1 2) (? (= x y) 2 1))");
        C.is("these become alike", Check.print(g, g.simple(u)), "(? (= x y) 2 1)");
        C.is("then rule 4", g.row(1, 1), 4);
    }

    private static void proofs() {
        BreedingHouse h = new BreedingHouse();
        int a = Check.tree(h, "(+ x 0)");
        int b = Check.tree(h, "(+ x 0)");
        int x = Check.tree(h, "x");
        int c = Check.code(h, "x");
        C.is("without rows: the same", h.proves(a, b), true);
        C.is("without rows: not the same", h.proves(a, x), false);
        C.is("no trees", h.proves(c, c), false);
        h.simple(a);
        C.is("a row", h.proves(b, x), true);
        C.is("not to itself", h.proves(b, b), false);
        C.is("it doesn't fit", h.proves(x, x), false);
        C.is("another way", h.proves(Check.tree(h, "(* y 1)"), Check.tree(h, "y")), true);
        C.is("no tree", h.proves(a, c), false);
        C.is("no tree", h.proves(c, x), false);
        h.simple(Check.tree(h, "(- (+ y (~ 5)) 0)"));
        C.is("rows", h.rows(), 2);
        C.is("a node that there isn't", h.proves(a, x), false);
        C.is("the rule counts, not the least one", h.proves(Check.tree(h, "(+ (- x (~ 9)) 0)"),
                Check.tree(h, "(- x -9)")), true);
        C.fails("no birth", Check.INDEX, () -> h.proves(0, 99));
        C.fails("no birth", Check.INDEX, () -> h.proves(-1, 0));
    }

    private static void equalTrees() {
        BreedingHouse h = new BreedingHouse();
        int x = Check.tree(h, "x");
        int y = Check.tree(h, "(+ y 0)");
        C.is("itself", h.equal(x, x), 1);
        C.is("made simple", h.equal(y, Check.tree(h, "(* 1 y)")), 1);
        C.is("x and y", h.equal(x, y), 0);
        C.witnessIs(h, -2, -1, -2);
        C.is("no proof", h.equal(Check.tree(h, "(+ x y)"), Check.tree(h, "(+ y x)")), 2);
        C.witnessIs(h, -2, -1, -2);
        C.is("n", h.equal(Check.tree(h, "n"), Check.tree(h, "0")), 0);
        C.witnessIs(h, -2, -2, -2, 3, 1, 2, 3);
        C.is("a fault", h.equal(Check.tree(h, "(/ 1 z)"), Check.tree(h, "(? (= z 0) 0 (/ 1 z))")), 0);
        C.witnessIs(h, -2, -2, 0);
        C.is("two faults", h.equal(Check.tree(h, "(# (/ 1 0))"), Check.tree(h, "(# 9)")), 0);
        C.is("one fault", h.equal(Check.tree(h, "(/ 1 0)"), Check.tree(h, "(% 1 0)")), 2);
        Check.put(h, 4, 5);
        h.add(1, 1, 9, 0, 1, true);
        h.add(7, 8, 9, 0, 1, false);
        C.is("cases first", h.equal(x, y), 0);
        C.witnessIs(h, 7, 8, 9);
        C.is("all cases", h.equal(Check.tree(h, "n"), Check.tree(h, "0")), 0);
        C.witnessIs(h, 1, 1, 9, 2, 4, 5);
        C.is("code and tree", h.equal(Check.code(h, "y 1 *"), y), 1);
        int jumps = Check.code(h, "x j0");
        C.is("code without a tree", h.equal(jumps, jumps), 2);
        C.is("code without a tree", h.equal(jumps, x), 2);
        C.is("a machine and a tree", h.equal(Check.machine(h, "3:0000"), Check.tree(h, "3")), 2);
        C.is("a machine and a tree", h.equal(Check.machine(h, "3:0000"), Check.tree(h, "4")), 0);
        C.is("nets of other lines", h.equal(Check.net(h, "2:"), Check.net(h, "3:")), 0);
        C.witnessIs(h, 1, 1, 9, 2, 4, 5);
        C.fails("what 15", Check.ARGUMENT, () -> h.witness(15));
        C.fails("what -1", Check.ARGUMENT, () -> h.witness(-1));
        C.fails("no birth", Check.INDEX, () -> h.equal(0, 99));
        C.fails("no birth", Check.INDEX, () -> h.equal(-1, 0));
        limited();
    }

    /** With fault 3 an outcome shows nothing. */
    private static void limited() {
        BreedingHouse h = new BreedingHouse();
        int longer = Check.code(h, "x j0 ~ ~ ~ ~ ~ ~ ~ ~ ~");
        int x = Check.tree(h, "x");
        C.is("unlike", h.equal(longer, x), 0);
        h.set(0, 10);
        C.is("too long to tell", h.equal(longer, x), 2);
    }

    private static void equalMachines() {
        BreedingHouse h = new BreedingHouse();
        int a = Check.machine(h, "0:0111;5:1022;0:0222");
        C.is("itself", h.equal(a, a), 1);
        int one = Check.machine(h, "4:0000");
        C.is("at once", h.equal(a, one), 0);
        C.witnessIs(h);
        C.is("a longer one", h.equal(one, Check.machine(h, "4:1111;4:2222;4:0003;5:0000")), 0);
        C.witnessIs(h, 0, 0, 0, 3, 0, 0, 3);
        C.is("not reached", h.equal(one, Check.machine(h, "4:0000;5:1111")), 1);
        C.is("the least", h.equal(Check.machine(h, "4:1212;4:0030;4:0300;5:0000"), one), 0);
        C.witnessIs(h, 0, 0, 0, 2, 0, 2);
        h.set(0, 10);
        int long1 = Check.machine(h, "1:1000;1:2000;1:3000;1:4000;1:5000;2:5555");
        int long2 = Check.machine(h, "1:0100;1:0200;1:0300;1:0400;1:0500;2:5555");
        C.is("both ways", h.equal(long1, long2), 0);
        C.witnessIs(h, 0, 0, 0, 5);
        int ring = Check.machine(h, "1:1111;1:2222;1:3333;1:4444;1:5555;1:0000");
        C.is("a ring", h.equal(ring, Check.machine(h, "1:0000")), 1);
        int six = Check.machine(h, "1:1111;0:2222;0:3333;0:4444;0:5555;0:0000");
        int five = Check.machine(h, "1:1111;0:2222;0:3333;0:4444;0:0000");
        C.is("rings of five and six", h.equal(six, five), 0);
        C.is("five steps", h.witness(3), 5);
    }

    private static void equalNets() {
        BreedingHouse h = new BreedingHouse();
        int a = Check.net(h, "4:01,23,02,13,12");
        int b = Check.net(h, "4:01,12,23,01");
        C.is("unlike", h.equal(a, b), 0);
        C.witnessIs(h, 0, 0, 0, 4, 1, 1, 0, 0);
        C.is("the middle line alone counts", h.equal(Check.net(h, "3:01,12"), Check.net(h, "3:01,12,01")), 0);
        C.is("upper lines don't", h.equal(Check.net(h, "4:01,23"), Check.net(h, "4:01")), 1);
        h.set(0, 10);
        int longer = Check.net(h, "2:01,01,01,01,01,01,01,01,01,01,01,01");
        C.is("no limit", h.equal(longer, Check.net(h, "2:01")), 1);
        C.is("the least number", h.equal(Check.net(h, "2:"), Check.net(h, "2:01")), 0);
        C.witnessIs(h, 0, 0, 0, 2, 1, 0);
    }

    private static void minimals() {
        BreedingHouse h = new BreedingHouse();
        int t = Check.tree(h, "(+ (* x y) (- y y))");
        C.is("without cases a leaf", Check.print(h, h.minimal(t)), "x");
        h.add(2, 3, 0, 6, 1, false);
        h.add(5, 4, 0, 20, 1, false);
        h.add(5, 4, 0, 0, 1, true);
        C.is("what it needs", Check.print(h, h.minimal(t)), "(* x y)");
        C.is("code", Check.print(h, h.minimal(Check.code(h, "x ~ ~ y * 1 +"))), "x y *");
        C.is("a branch", Check.print(h, h.minimal(Check.code(h, "x y * 0 b1 ~"))), "x y *");
        Check.put(h, 5, 3);
        h.add(2, 3, 0, 6, 1, false);
        int m = Check.machine(h, "1:1111;6:2222;6:2222;9:0000");
        C.is("machine", h.birth(h.minimal(m), 1) < 4, true);
        BreedingHouse g = new BreedingHouse();
        Check.put(g, 9, 4, 7);
        g.add(0, 0, 0, 7, 1, false);
        int n = Check.net(g, "3:01,01,12,12");
        C.is("net", Check.print(g, g.minimal(n)), "3:01,12");
        C.fails("no birth", Check.INDEX, () -> g.minimal(99));
        Check.fill(g, 600);
        C.fails("no room", Check.STATE, () -> g.minimal(0));
        better();
    }

    /** A better program may come of it, and then it must stay as good. */
    private static void better() {
        BreedingHouse h = new BreedingHouse();
        h.add(4, 1, 0, 4, 1, false);
        C.is("better", Check.print(h, h.minimal(Check.tree(h, "(+ x y)"))), "x");
        C.is("the first that is no worse", Check.print(h, h.minimal(Check.tree(h, "(+ (+ y 2) x)"))), "(+ y 2)");
        C.is("the first that is no worse", Check.print(h, h.minimal(Check.tree(h, "(- x (- y y))"))), "x");
    }

    private static void robustness() {
        BreedingHouse h = new BreedingHouse();
        int b = Check.tree(h, "(+ x 5)");
        int[] due = {0, 5, 0};
        for (int what = 0; what < 3; what++) {
            C.is("without cases", h.robust(b, 0, what), due[what]);
        }
        h.add(1, 0, 0, 7, 1, false);
        // 6, 4, 15, -5, -5: of errors 0, 2, 9, 11, 11 against 1.
        C.is("lesser", h.robust(b, 0, 0), 1);
        C.is("the same", h.robust(b, 0, 1), 0);
        C.is("greater", h.robust(b, 0, 2), 4);
        for (int how = 0; how < 4; how++) {
            C.is("all", h.robust(b, how, 0) + h.robust(b, how, 1) + h.robust(b, how, 2), h.edits(b, how));
        }
        C.fails("how 4", Check.ARGUMENT, () -> h.robust(b, 4, 0));
        C.fails("how -1", Check.ARGUMENT, () -> h.robust(b, -1, 0));
        C.fails("what 3", Check.ARGUMENT, () -> h.robust(b, 0, 3));
        C.fails("what -1", Check.ARGUMENT, () -> h.robust(b, 0, -1));
        C.fails("no birth", Check.INDEX, () -> h.robust(9, 9, 9));
    }

    private static void compiled(int kind, String text, String due) {
        BreedingHouse h = new BreedingHouse();
        int b = Check.read(h, kind, text);
        int c = h.compile(b, 1 - kind);
        C.is("compile of " + text, c < 0 ? "none" : Check.print(h, c), due);
        C.is("made", h.births(), c < 0 ? 1 : 2);
    }

    private static void codeOfTrees() {
        compiled(0, "-5", "-5");
        compiled(0, "(- x (~ n))", "x n ~ -");
        compiled(0, "(# (% y z))", "y z % #");
        compiled(0, "(? (! (< x y)) 1 2)", "x y < 0 = b2 1 j1 2");
        compiled(0, "(? (& (< x y) (= y z)) 1 2)", "x y < b4 y z = j1 0 b2 1 j1 2");
        compiled(0, "(? (| (< x y) (= y z)) 1 2)", "x y < b2 1 j3 y z = b2 1 j1 2");
        compiled(0, "(? (< x y) (+ x 1) (+ (+ y 2) z))", "x y < b4 x 1 + j5 y 2 + z +");
        compiled(0, "(@ x s)", "none");
        compiled(0, "(+ 1 (@ x 2))", "none");
        String right = "x";
        for (int k = 0; k < 7; k++) {
            right = "(+ x " + right + ")";
        }
        compiled(0, right, Check.repeat("x ", 8) + "+" + Check.repeat(" +", 6));
        compiled(0, "(+ x " + right + ")", "none");
        compiled(0, Check.repeat("(? (= 1 2) 3 ", 9) + "(~ (~ x))" + Check.repeat(")", 9),
                "1 2 = b2 3 j51 1 2 = b2 3 j45 1 2 = b2 3 j39 1 2 = b2 3 j33 1 2 = b2 3 j27 1 2 = b2 3 j21 1 2 = b2 3 j15 "
                + "1 2 = b2 3 j9 1 2 = b2 3 j3 x ~ ~");
        compiled(0, "(? " + Check.repeat("(& (= 1 1) ", 8) + "(= (~ 1) 1)" + Check.repeat(")", 8) + " x 3)",
                "1 1 = b47 1 1 = b41 1 1 = b35 1 1 = b29 1 1 = b23 1 1 = b17 1 1 = b11 1 1 = b5 1 ~ 1 ="
                + Check.repeat(" j1 0", 8) + " b2 x j1 3");
        compiled(0, "(? " + Check.repeat("(| (= 1 1) ", 8) + "(= (~ 1) 1)" + Check.repeat(")", 8) + " x 3)",
                "1 1 = b2 1 j46 1 1 = b2 1 j40 1 1 = b2 1 j34 1 1 = b2 1 j28 1 1 = b2 1 j22 1 1 = b2 1 j16 1 1 = b2 1 j10 "
                + "1 1 = b2 1 j4 1 ~ 1 = b2 x j1 3");
        String fits = "(~ " + conditions(4) + ")";
        compiled(0, conditions(6), "none");
        BreedingHouse h = new BreedingHouse();
        C.is("it is code", h.birth(h.compile(Check.tree(h, fits), 1), 0), 1);
        int m = Check.machine(h, "1:0000");
        int t = Check.tree(h, "x");
        int c = Check.code(h, "x");
        C.fails("a machine", Check.ARGUMENT, () -> h.compile(m, 0));
        C.fails("to its own kind", Check.ARGUMENT, () -> h.compile(t, 0));
        C.fails("to its own kind", Check.ARGUMENT, () -> h.compile(c, 1));
        C.fails("to a machine", Check.ARGUMENT, () -> h.compile(t, 2));
        C.fails("no birth", Check.INDEX, () -> h.compile(99, 9));
        int fold = Check.tree(h, "(@ x s)");
        Check.fill(h, 600);
        C.fails("no room is told first", Check.STATE, () -> h.compile(fold, 1));
        C.fails("no room", Check.STATE, () -> h.compile(t, 1));
    }

    /** Nested conditions: ten instructions each, and one. */
    private static String conditions(int depth) {
        return depth == 0 ? "x" : "(? (| (< x y) (= y z)) 1 " + conditions(depth - 1) + ")";
    }

    private static void treesOfCode() {
        compiled(1, "x d * y w -", "(- y (* x x))");
        compiled(1, "x y <", "(? (< x y) 1 0)");
        compiled(1, "x y < ~", "(~ (? (< x y) 1 0))");
        compiled(1, "x y < z =", "(? (= (? (< x y) 1 0) z) 1 0)");
        compiled(1, "x y < d +", "(+ (? (< x y) 1 0) (? (< x y) 1 0))");
        compiled(1, "x y < z w -", "(- z (? (< x y) 1 0))");
        compiled(1, "x y < o z", "z");
        compiled(1, "x y / o z", "none");
        compiled(1, "x # o z", "none");
        compiled(1, "x y / z w -", "(- z (/ x y))");
        compiled(1, "x y % z # w -", "none");
        compiled(1, "x y % z w +", "(+ z (% x y))");
        compiled(1, "x j0", "none");
        compiled(1, "x 1 b0", "none");
        compiled(1, "x" + Check.repeat(" ~", 11), Check.repeat("(~ ", 11) + "x" + Check.repeat(")", 11));
        compiled(1, "x" + Check.repeat(" ~", 12), "none");
        compiled(1, "y x" + Check.repeat(" ~", 12) + " o", "none");
        compiled(1, "x" + Check.repeat(" ~", 9) + " y <", "(? (< " + Check.repeat("(~ ", 9) + "x" + Check.repeat(")", 9)
                + " y) 1 0)");
        compiled(1, "x" + Check.repeat(" ~", 10) + " y <", "none");
        compiled(1, "y x" + Check.repeat(" ~", 10) + " y < o", "y");
        compiled(1, "x d + d + d + d +", "(+ " + doubled(4) + ")");
        compiled(1, "x d + d + d + d + d + d +", "none");
    }

    private static String doubled(int times) {
        String half = times == 1 ? "x" : "(+ " + doubled(times - 1) + ")";
        return half + " " + half;
    }

    private static void leastMachines() {
        C.leastIs("7:0000", "7:0000");
        C.leastIs("7:1111;7:0000", "7:0000");
        C.leastIs("7:0000;8:1111", "7:0000");
        C.leastIs("1:2100;2:1111;3:2222", "1:1200;3:1111;2:2222");
        C.leastIs("1:3214;2:1111;2:2222;2:3333;9:0000", "1:1112;2:1111;9:0000");
        C.leastIs("0:0111;5:1022;0:0222", "0:0111;5:1022;0:0222");
        C.leastIs("1:1234;0:5555;0:5555;0:1111;3:4444;0:2222", "1:1112;0:1111;3:2222");
        BreedingHouse h = new BreedingHouse();
        C.fails("no machine", Check.ARGUMENT, () -> h.least(Check.tree(h, "x")));
        C.fails("no birth", Check.INDEX, () -> h.least(-1));
        int m = Check.machine(h, "1:0000");
        Check.fill(h, 600);
        C.fails("no room", Check.STATE, () -> h.least(m));
        C.fails("no machine first", Check.ARGUMENT, () -> h.least(0));
    }

    private static void netIs(String text, String clean, int unsorted, int layers) {
        BreedingHouse h = new BreedingHouse();
        int b = Check.net(h, text);
        C.is("clean of " + text, Check.print(h, h.clean(b)), clean);
        C.is("unsorted of " + text, h.unsorted(b), unsorted);
        C.is("layers of " + text, h.layers(b), layers);
    }

    private static void nets() {
        netIs("2:", "2:", 1, 0);
        netIs("2:01", "2:01", -1, 1);
        netIs("2:01,01", "2:01", -1, 2);
        netIs("3:01,01,12", "3:01,12", 3, 3);
        netIs("3:01,12,01,12,02", "3:01,12,01", -1, 5);
        netIs("4:01,23,02,13,12", "4:01,23,02,13,12", -1, 3);
        netIs("4:01,12,23,01", "4:01,12,23,01", 3, 3);
        netIs("4:23,01", "4:23,01", 1, 1);
        netIs("8:", "8:", 1, 0);
        BreedingHouse h = new BreedingHouse();
        int x = Check.tree(h, "x");
        int n = Check.net(h, "3:01");
        C.fails("no net", Check.ARGUMENT, () -> h.clean(x));
        C.fails("no net", Check.ARGUMENT, () -> h.unsorted(x));
        C.fails("no net", Check.ARGUMENT, () -> h.layers(x));
        C.fails("no birth", Check.INDEX, () -> h.clean(-1));
        C.fails("no birth", Check.INDEX, () -> h.unsorted(9));
        C.fails("no birth", Check.INDEX, () -> h.layers(9));
        Check.fill(h, 600);
        C.fails("no room", Check.STATE, () -> h.clean(n));
        C.fails("no net first", Check.ARGUMENT, () -> h.clean(x));
        C.is("no room needed", h.layers(n), 1);
    }
}
