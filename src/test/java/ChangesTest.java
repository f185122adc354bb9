/** Promises 29 to 33: edits, edit, change, pairs, cross. */
public final class ChangesTest {
    private static final Check C = new Check();

    public static void main(String[] args) {
        treeEdits();
        codeEdits();
        machineEdits();
        netEdits();
        wrongEdits();
        changes();
        regrowth();
        pairs();
        crosses();
        C.end();
    }

    private static void treeEdits() {
        C.editsAre(0, "(+ x 5)", 0, "(+ x 6)/(+ x 4)/(+ x 15)/(+ x -5)/(+ x -5)");
        C.editsAre(0, "(+ 0 -99)", 0, "(+ 1 -99)/(+ -1 -99)/(+ 10 -99)/(+ -10 -99)/(+ 0 -98)/(+ 0 -89)/(+ 0 99)");
        C.editsAre(0, "90", 0, "91/89/80/-90");
        C.editsAre(0, "x", 0, "");
        C.editsAre(0, "x", 1, "1/y/z/n");
        C.editsAre(0, "7", 1, "x/y/z/n");
        C.editsAre(0, "(~ 0)", 1, "(# 0)/(~ x)/(~ y)/(~ z)/(~ n)");
        C.editsAre(0, "(@ 1 s)", 1, "(@ x s)/(@ y s)/(@ z s)/(@ n s)/(@ 1 1)/(@ 1 x)/(@ 1 y)/(@ 1 z)/(@ 1 n)/(@ 1 e)");
        C.editsMany(0, "(@ 1 2)", 1, 5 + 4 + 6);
        C.editsMany(0, "(+ (@ 1 2) y)", 1, 5 + 5 + 4 + 6 + 4);
        C.editsMany(0, "(+ y (@ 1 2))", 1, 4 + 4 + 5 + 4 + 6);
        C.editsMany(0, "(@ (@ 1 2) (+ s 3))", 1, 0 + 5 + 4 + 6 + 4 + 6 + 6);
        C.editsAre(0, "(? (< 1 2) 3 4)", 2, "0/x/1/(? (< 0 2) 3 4)/(? (< x 2) 3 4)/(? (< 1 0) 3 4)/(? (< 1 x) 3 4)"
                + "/(? (< 1 1) 3 4)/(? (< 1 2) 0 4)/(? (< 1 2) x 4)/(? (< 1 2) 1 4)/(? (< 1 2) 3 0)/(? (< 1 2) 3 x)/(? (< 1 2) 3 1)");
        C.editsMany(0, "(? (! (& (< x y) (| (= 1 2) (< 3 4)))) 0 1)", 1, 1 + 1 + 4 + 4 + 1 + 1 + 4 + 4 + 1 + 4 + 4 + 4 + 4);
        C.editsAre(0, "(? (! (! (< x y))) 1 2)", 3, "1/2/(? (! (< x y)) 1 2)/(? (! (< x y)) 1 2)");
        C.editsAre(0, "(? (& (< x y) (= 1 2)) 3 4)", 3, "3/4/(? (< x y) 3 4)/(? (= 1 2) 3 4)");
        C.editsAre(0, "(@ x (+ s 1))", 3, "x/(@ x s)/(@ x 1)");
        C.editsAre(0, "(@ x (+ y 1))", 3, "x/(+ y 1)/(@ x y)/(@ x 1)");
        C.editsAre(0, "(~ (# x))", 3, "(# x)/(~ x)");
        C.editsAre(0, "n", 3, "");
    }

    private static void codeEdits() {
        C.editsAre(1, "5 j0 -98 +", 0, "6 j0 -98 +/4 j0 -98 +/15 j0 -98 +/-5 j0 -98 +/-5 j0 -98 +"
                + "/5 j0 -97 +/5 j0 -99 +/5 j0 -88 +/5 j0 98 +");
        C.editsAre(1, "5 d o", 1, "x d o/y d o/z d o/n d o");
        C.editsMany(1, "5 ~ d - o n", 1, 4 + 1 + 0 + 6 + 0 + 4);
        C.editsMany(1, "x y w b0 j0", 1, 4 + 4);
        C.editsAre(1, "5 ~", 1, "x ~/y ~/z ~/n ~/5 #");
        C.editsAre(1, "n d <", 1, "1 d </x d </y d </z d </n d +/n d -/n d */n d //n d %/n d =");
        C.editsAre(1, "x", 2, "");
        C.editsAre(1, "x ~ ~", 2, "x ~/x/x ~");
        C.editsAre(1, "x 0 < b2 1 j1 7", 2, "x b2 1 j1 7/x 0 < b0 7");
        C.editsMany(1, "x 0 < b2 1 j1 7", 3, 25);
        C.editsAre(1, "x y b1 ~ ~ ~ ~", 2, "x ~ ~ ~ ~/x ~ ~ ~/x y b0 ~ ~ ~/x y b1 ~ ~ ~/x y b1 ~ ~/x y b1 ~"
                + "/x y b1 ~ ~ ~/x y b1 ~ ~/x y b1 ~ ~ ~");
        C.editsAre(1, "x", 3, "x ~/x 1 +/x 1 -/x x +/x d *");
        C.editsMany(1, "x" + Check.repeat(" ~", 59), 3, 0);
        C.editsMany(1, "x" + Check.repeat(" ~", 58), 3, 59);
        C.editsMany(1, "x" + Check.repeat(" ~", 57), 3, 58 * 5);
        jumps();
    }

    /** Jumps over places where something goes or comes keep leading to the same place. */
    private static void jumps() {
        BreedingHouse h = new BreedingHouse();
        int b = Check.code(h, "x b4 1 ~ ~ j1 7 ~");
        String all = "/" + Check.edits(h, b, 2) + "/";
        C.is("the branch is shorter", all.contains("/x b3 1 ~ j1 7 ~/"), true);
        C.is("two shorter", all.contains("/x b2 1 j1 7 ~/"), true);
        C.is("what leads to the end stays", all.contains("/x b4 1 ~ ~ j1 7/"), true);
        C.is("none is cut into", all.contains("/x b4 1 ~ ~ ~/"), false);
        all = "/" + Check.edits(h, b, 3) + "/";
        C.is("the branch is longer", all.contains("/x b6 1 1 + ~ ~ j1 7 ~/"), true);
        C.is("ahead of where it leads", all.contains("/x b4 1 ~ ~ j1 7 ~ ~/"), true);
        C.is("behind the jump", all.contains("/x b4 1 ~ ~ j1 7 d * ~/"), true);
        int c = Check.code(h, "x y b1 ~ ~");
        C.is("what leads to a place leads ahead of what comes there",
                ("/" + Check.edits(h, c, 3) + "/").contains("/x y b1 ~ 1 + ~/"), true);
    }

    private static void machineEdits() {
        C.editsAre(2, "0:0000", 0, "1:0000/-1:0000/10:0000/-10:0000");
        C.editsAre(2, "0:0000", 1, "");
        C.editsAre(2, "3:0010;4:1111", 1, "3:1010;4:1111/3:0110;4:1111/3:0000;4:1111/3:0011;4:1111"
                + "/3:0010;4:0111/3:0010;4:1011/3:0010;4:1101/3:0010;4:1110");
        C.editsAre(2, "3:0010;4:1111", 2, "3:2010;4:1111;3:0010/3:0210;4:1111;3:0010/3:0020;4:1111;4:1111/3:0012;4:1111;3:0010"
                + "/3:0010;4:2111;4:1111/3:0010;4:1211;4:1111/3:0010;4:1121;4:1111/3:0010;4:1112;4:1111");
        C.editsAre(2, "1:0123;2:0123;3:2222;4:3210", 3, "1:0012;3:1111;4:2100/1:0102;2:0102;4:2010/1:0120;2:0120;3:2222");
        C.editsAre(2, "1:0000", 3, "");
        C.editsMany(2, Check.repeat("1:0000;", 5) + "1:0000", 2, 0);
        C.editsMany(2, Check.repeat("1:0000;", 5) + "1:0000", 1, 6 * 4 * 5);
    }

    private static void netEdits() {
        C.editsAre(3, "3:01,12", 0, "3:02,12/3:12,12/3:01,01/3:01,02");
        C.editsAre(3, "2:01", 0, "");
        C.editsAre(3, "3:01,12,12", 1, "3:12,12/3:01,12/3:01,12");
        C.editsAre(3, "3:12", 2, "3:01,12/3:02,12/3:12,12/3:12,01/3:12,02/3:12,12");
        C.editsAre(3, "3:", 2, "3:01/3:02/3:12");
        C.editsAre(3, "3:01,12,12,02", 3, "3:12,01,12,02/3:01,12,02,12");
        C.editsAre(3, "3:", 3, "");
        C.editsAre(3, "3:", 1, "");
        C.editsAre(3, "3:01", 3, "");
        C.editsMany(3, "8:01" + Check.repeat(",12", 39), 2, 0);
        C.editsMany(3, "8:01" + Check.repeat(",12", 38), 2, 40 * 28);
    }

    private static void wrongEdits() {
        BreedingHouse h = new BreedingHouse();
        int b = Check.tree(h, "(+ x 5)");
        C.fails("how 4", Check.ARGUMENT, () -> h.edits(b, 4));
        C.fails("how -1", Check.ARGUMENT, () -> h.edits(b, -1));
        C.fails("no birth", Check.INDEX, () -> h.edits(1, 9));
        C.fails("no edit", Check.INDEX, () -> h.edit(b, 0, 5));
        C.fails("no edit", Check.INDEX, () -> h.edit(b, 0, -1));
        C.fails("how 4 is told first", Check.ARGUMENT, () -> h.edit(b, 4, -1));
        C.fails("no birth", Check.INDEX, () -> h.edit(-1, 4, 0));
        C.fails("change by 5", Check.ARGUMENT, () -> h.change(b, 5, 0));
        C.fails("change by -1", Check.ARGUMENT, () -> h.change(b, -1, 0));
        C.fails("change of none", Check.INDEX, () -> h.change(9, 5, 0));
        int code = Check.code(h, "x");
        C.fails("4 is for trees", Check.ARGUMENT, () -> h.change(code, 4, 0));
        C.fails("cross of two kinds", Check.ARGUMENT, () -> h.cross(b, code, 0));
        C.fails("cross of none", Check.INDEX, () -> h.cross(b, 7, 0));
        C.fails("pairs of none", Check.INDEX, () -> h.pairs(7, b));
        C.fails("pairs of none", Check.INDEX, () -> h.pairs(b, -1));
        Check.fill(h, 600);
        C.fails("no edit is told first", Check.INDEX, () -> h.edit(b, 0, 5));
        C.fails("no room for an edit", Check.STATE, () -> h.edit(b, 0, 0));
        C.fails("no room for a change", Check.STATE, () -> h.change(b, 0, 0));
        C.fails("no room for a cross", Check.STATE, () -> h.cross(b, b, 0));
    }

    private static void changes() {
        BreedingHouse h = new BreedingHouse();
        String[] texts = {"(? (< x 3) (@ 1 (+ s e)) (~ y))", "x 3 < b4 y 4 * j1 7", "1:0120;2:1111;3:2010", "4:01,12,23"};
        for (int kind = 0; kind < 4; kind++) {
            int b = Check.read(h, kind, texts[kind]);
            for (int how = 0; how < 4; how++) {
                long[] seeds = {0, 1, -1, Long.MAX_VALUE, 123456789012345L};
                for (long seed : seeds) {
                    int many = h.edits(b, how);
                    int due = (int) (new Draws(seed).next() % many);
                    int child = h.change(b, how, seed);
                    C.is("the edit that is drawn", h.birth(child, 6), due);
                    C.is("is that edit", h.same(child, h.edit(b, how, due)), true);
                    C.is("how", h.birth(child, 5), how);
                }
            }
        }
        int x = Check.tree(h, "x");
        int same = h.change(x, 0, 77);
        C.is("without edits it is the same", h.same(x, same), true);
        C.is("and has no number", h.birth(same, 6), -1);
        C.is("but a seed", h.seed(same), 77);
        C.is("and is of way 3", h.birth(same, 2), 3);
    }

    private static void regrowth() {
        BreedingHouse h = new BreedingHouse();
        int x = Check.tree(h, "x");
        long[] trees = {h.trees(1), h.trees(2), h.trees(3), h.trees(4)};
        for (long seed = 0; seed < 200; seed++) {
            Draws draws = new Draws(seed);
            draws.next();
            int size = 1 + (int) (draws.next() % 4);
            long place = draws.wide(trees[size - 1]);
            int child = h.change(x, 4, seed);
            C.is("size", h.birth(child, 1), size);
            C.is("place", h.place(child), place);
        }
        truthsAndInners();
        tooDeep();
    }

    /** In a condition there are 2 * 14 * 14 truths of size 3, in a fold's second part 16 leaves. */
    private static void truthsAndInners() {
        BreedingHouse h = new BreedingHouse();
        int t = Check.tree(h, "(? (= x y) 1 2)");
        int f = Check.tree(h, "(@ x 0)");
        int truths = 0;
        int leaves = 0;
        for (long seed = 0; seed < 250; seed++) {
            Draws draws = new Draws(seed);
            int node = (int) (draws.next() % 6);
            int size = 1 + (int) (draws.next() % 4);
            if (node == 1 && size <= 3) {
                long place = draws.wide(2 * 14 * 14);
                int child = h.change(t, 4, seed);
                C.is("sort", h.item(child, 1, 0), place < 196 ? 15 : 16);
                C.is("first leaf", leaf(h, child, 2), place % 196 / 14);
                C.is("second leaf", leaf(h, child, 3), place % 14);
                truths++;
            }
            draws = new Draws(seed);
            node = (int) (draws.next() % 3);
            size = 1 + (int) (draws.next() % 4);
            if (node == 2 && size == 1) {
                C.is("inner leaf", leaf(h, h.change(f, 4, seed), 2), draws.wide(16));
                leaves++;
            }
        }
        C.is("both were tried", truths > 5 && leaves > 5, true);
    }

    private static int leaf(BreedingHouse h, int b, int node) {
        int sort = h.item(b, node, 0);
        return sort == 0 ? h.item(b, node, 1) : 9 + sort;
    }

    private static void tooDeep() {
        BreedingHouse h = new BreedingHouse();
        int deep = Check.tree(h, Check.repeat("(~ ", 11) + "x" + Check.repeat(")", 11));
        int kept = 0;
        for (long seed = 0; seed < 300; seed++) {
            int child = h.change(deep, 4, seed);
            C.is("at most 12 deep", h.birth(child, 8) <= 12, true);
            Draws draws = new Draws(seed);
            if (draws.next() % 12 == 11 && draws.next() % 4 > 0) {
                C.is("the same, as it would be too deep", h.same(deep, child), true);
                kept++;
            }
        }
        C.is("that was tried", kept > 0, true);
        justDeepEnough();
    }

    private static void justDeepEnough() {
        BreedingHouse h = new BreedingHouse();
        int deep = Check.tree(h, Check.repeat("(~ ", 11) + "x" + Check.repeat(")", 11));
        int tried = 0;
        for (long seed = 0; seed < 300; seed++) {
            Draws draws = new Draws(seed);
            if (draws.next() % 12 == 10 && draws.next() % 4 == 1) {
                String due = Check.print(h, h.tree(2, draws.wide(h.trees(2))));
                C.is("12 deep is fine", Check.print(h, h.change(deep, 4, seed)),
                        Check.repeat("(~ ", 10) + due + Check.repeat(")", 10));
                tried++;
            }
        }
        C.is("that was tried", tried > 0, true);
    }

    private static void pairs() {
        C.pairsMany(0, "x", "y", 1);
        C.pairsMany(0, "(+ x (* 2 y))", "(@ 0 (+ s e))", 10);
        C.pairsMany(0, "(@ 0 (+ s e))", "(@ 0 (+ s e))", 2 * 2 + 3 * 4);
        C.pairsMany(0, "(? (< x y) 1 2)", "(? (! (= x y)) 1 2)", 5 * 5 + 1 * 2);
        C.pairsMany(0, Check.repeat("(~ ", 11) + "x" + Check.repeat(")", 11), "(~ x)", 12 + 11);
        C.pairsMany(1, "x", "y", 2);
        C.pairsMany(1, "x ~", "y", 3);
        C.pairsMany(1, "x 0 < b2 1 j1 7", "x d * y w -", 14);
        C.pairsMany(2, "1:0000", "2:0000", 0);
        C.pairsMany(2, "1:0000;2:0000", "3:0000;4:0000", 2);
        C.pairsMany(2, "1:0000;2:0000", "3:0000", 0);
        C.pairsMany(3, "3:01,12", "3:02", 3 * 2);
        C.pairsMany(3, "3:", "3:", 1);
        C.pairsMany(3, "3:01", "4:01", 0);
        C.pairsMany(3, "3:01" + Check.repeat(",12", 39), "3:01,12", 41 * 3 - 3);
        BreedingHouse h = new BreedingHouse();
        C.is("two kinds", h.pairs(Check.tree(h, "x"), Check.code(h, "x")), 0);
        sizes();
    }

    private static void sizes() {
        // Of 59 nodes 30 are leaves, for which up to 2 nodes can come; for the others 4 can, too.
        C.pairsMany(0, "(+ " + sum(29) + " " + sum(29) + ")", "(+ x (~ y))", 30 * 3 + 29 * 4);
    }

    private static String sum(int size) {
        if (size == 1) {
            return "x";
        }
        int left = (size - 1) / 2 % 2 == 1 ? (size - 1) / 2 : (size - 1) / 2 - 1;
        return "(+ " + sum(left) + " " + sum(size - 1 - left) + ")";
    }

    private static void crosses() {
        BreedingHouse h = new BreedingHouse();
        int a = Check.tree(h, "(+ x 1)");
        int b = Check.tree(h, "(~ y)");
        String[] due = {"(~ y)", "y", "(+ (~ y) 1)", "(+ y 1)", "(+ x (~ y))", "(+ x y)"};
        C.is("pairs", h.pairs(a, b), 6);
        for (long seed = 0; seed < 30; seed++) {
            int number = (int) (new Draws(seed).next() % 6);
            int child = h.cross(a, b, seed);
            C.is("the pair that is drawn", h.birth(child, 6), number);
            C.is("its child", Check.print(h, child), due[number]);
        }
        int m = Check.machine(h, "1:0000;2:1111;3:2222");
        int n = Check.machine(h, "4:1111;5:2222;6:0000");
        String[] mixed = {"4:1111;2:1111;3:2222", "1:0000;5:2222;3:2222", "4:1111;5:2222;3:2222",
            "1:0000;2:1111;6:0000", "4:1111;2:1111;6:0000", "1:0000;5:2222;6:0000"};
        for (long seed = 0; seed < 30; seed++) {
            C.is("states of both", Check.print(h, h.cross(m, n, seed)), mixed[(int) (new Draws(seed).next() % 6)]);
        }
        int p = Check.net(h, "3:01");
        int q = Check.net(h, "3:12,02");
        String[] joined = {"3:12,02", "3:02", "3:", "3:01,12,02", "3:01,02", "3:01"};
        for (long seed = 0; seed < 30; seed++) {
            C.is("comparators of both", Check.print(h, h.cross(p, q, seed)), joined[(int) (new Draws(seed).next() % 6)]);
        }
        int c = Check.code(h, "x ~");
        int d = Check.code(h, "y");
        String[] codes = {"x ~", "y ~", "y"};
        C.is("pairs of code", h.pairs(d, c), 3);
        for (long seed = 0; seed < 30; seed++) {
            C.is("instructions of both", Check.print(h, h.cross(d, c, seed)), codes[(int) (new Draws(seed).next() % 3)]);
        }
        int single = Check.machine(h, "9:0000");
        int child = h.cross(single, m, 5);
        C.is("without pairs as the first", h.same(child, single), true);
        C.is("and without a number", h.birth(child, 6), -1);
    }
}
