/** The edges of promises 48 to 61 and of Term 8. */
public final class UnderstandingEdgesTest {
    private static final Check C = new Check();
    private static final int LEAST = Integer.MIN_VALUE;
    private static final int MOST = Integer.MAX_VALUE;
    private static final String SORTS8 = "8:01,23,45,67,02,13,46,57,12,56,04,15,26,37,24,35,12,34,56";

    public static void main(String[] args) {
        searchUpToASize();
        searchWithoutFold();
        searchOfSeenCases();
        searchOfEachSign();
        searchInRows();
        searchWithoutCases();
        searchFinds();
        searchSizes();
        safe();
        rule0();
        rule1();
        rule2();
        rule3();
        rule4();
        rule5();
        rule6();
        rules7And8();
        greatestNode();
        simpleWithoutRows();
        rowsAndOthers();
        provesTrees();
        provesRows();
        equalMachines();
        equalNets();
        equalTrees();
        equalTries();
        equalCases();
        equalByLimit();
        codeWithoutTree();
        witnessAheadOfOne();
        witnessOfMachines();
        witnessAnew();
        witnessOfNets();
        anotherWitness();
        minimalTrees();
        minimalOthers();
        minimalScores();
        robustCounts();
        robustWrong();
        codeOfTrees();
        codeOfDeepTrees();
        codeTooLong();
        codeTooHigh();
        codeOfFolds();
        treeOfJumps();
        treeOfTruths();
        treeUnsafe();
        treeTooGreat();
        treeTooDeep();
        noSuchTurn();
        leastStates();
        leastInOrder();
        cleaned();
        unsorted();
        layers();
        noNet();
        C.end();
    }

    private static String found(BreedingHouse h, int size) {
        int b = h.search(size);
        return b < 0 ? "none" : Check.print(h, b);
    }

    private static void searchUpToASize() {
        C.about("Promise 48", "The least TREE in the ORDER, of a SIZE up to size");
        int[][] numbers = {{7, 1, 7, 20, 2, 20}, {7, 1, -7, 20, 2, -20}, {7, 1, 14, 20, 2, 40}, {17, 3, 14, 20, 7, 13},
                {17, 3, 37, 20, 7, 47}};
        String[] least = {"x", "(~ x)", "(+ x x)", "(- x y)", "(+ x (+ x y))"};
        int[] sizes = {1, 2, 3, 3, 5};
        for (int k = 0; k < 5; k++) {
            BreedingHouse h = new BreedingHouse();
            int[] n = numbers[k];
            h.add(n[0], n[1], 50, n[2], 1, false);
            h.add(n[3], n[4], 60, n[5], 1, false);
            for (int size = 1; size <= 5; size++) {
                C.is("up to " + size, found(h, size), size < sizes[k] ? "none" : least[k]);
            }
        }
        BreedingHouse four = new BreedingHouse();
        four.add(17, 3, 50, -14, 1, false);
        four.add(20, 7, 60, -13, 1, false);
        C.is("ahead of ~ (- x y)", found(four, 5), "(- y x)");
    }

    private static void searchWithoutFold() {
        C.about("Promise 48", "without FOLD");
        BreedingHouse h = new BreedingHouse();
        Check.put(h, 61);
        h.add(0, 0, 0, 61, 1, false);
        Check.put(h, 31, 57);
        h.add(0, 0, 0, 57, 1, false);
        Check.put(h, 11, 12, 83);
        h.add(0, 0, 0, 83, 1, false);
        C.is("a fold of 3 nodes would do", h.hits(Check.tree(h, "(@ 0 e)"), false), 3);
        C.is("up to 3", h.search(3), -1);
        C.is("up to 4", found(h, 4), "(# (- n 1))");
        h.add(0, 0, 0, 0, 1, false);
        C.is("nothing without a fold", h.search(5), -1);
    }

    private static void searchOfSeenCases() {
        C.about("Promise 48", "whose ERROR is 0 at all SEEN CASES");
        BreedingHouse h = new BreedingHouse();
        h.add(40, 50, 60, 50, 1, false);
        h.add(40, 50, 60, 77, 1, true);
        C.is("hidden ones don't count", found(h, 1), "y");
        h.add(41, 52, 60, 53, 9, false);
        C.is("an error of 1 isn't 0", h.search(1), -1);
        BreedingHouse full = new BreedingHouse();
        for (int k = 0; k < 24; k++) {
            full.add(k, 7 * k + 40, -3, k == 23 ? 201 - 3 : 7 * k + 37, 1, false);
        }
        C.is("all 24", found(full, 5), "(+ y z)");
        full.drop(23);
        full.add(23, 201, -3, 199, 1, false);
        C.is("the last one counts", full.search(3), -1);
        BreedingHouse wrap = new BreedingHouse();
        wrap.add(MOST, 1, 90, LEAST, 1, false);
        wrap.add(LEAST, 3, 90, LEAST + 3, 1, false);
        C.is("numbers wrap", found(wrap, 3), "(+ x y)");
        BreedingHouse weights = new BreedingHouse();
        weights.add(40, 50, 60, 1, 1, false);
        weights.add(40, 50, 60, 2, 2, false);
        C.is("a weight is no leaf", weights.search(1), -1);
    }

    private static void searchOfEachSign() {
        C.about("Promise 48", "whose ERROR is 0 at all SEEN CASES");
        String[] signs = {"+", "-", "*", "/", "%"};
        int[][] due = {{47, 33, 50, 2080}, {33, 27, 50, 2016}, {280, 90, 0, 65536}, {5, 10, 0, 64}, {5, 0, 0, 0}};
        int[][] numbers = {{40, 7}, {30, 3}, {50, 0}, {2048, 32}};
        for (int s = 0; s < 5; s++) {
            BreedingHouse h = new BreedingHouse();
            for (int k = 0; k < 4; k++) {
                if (s < 3 || k != 2) {
                    h.add(numbers[k][0], numbers[k][1], -77, due[s][k], 1, false);
                }
            }
            C.is("sign " + signs[s], found(h, 3), "(" + signs[s] + " x y)");
            if (s >= 3) {
                h.add(50, 0, -77, 0, 1, false);
                C.is("a quotient by 0 is no 0", found(h, 3), "none");
            }
        }
        BreedingHouse one = new BreedingHouse();
        one.add(40, 0, 0, -40, 1, false);
        one.add(MOST, 0, 0, -MOST, 1, false);
        C.is("~", found(one, 2), "(~ x)");
    }

    private static void searchInRows() {
        C.about("Promise 48", "whose ERROR is 0 at all SEEN CASES");
        BreedingHouse h = new BreedingHouse();
        Check.put(h, 7, 33);
        h.add(0, 0, 0, 33, 1, false);
        C.is("the last of the row", found(h, 2), "(# 1)");
        h.put(7);
        h.add(0, 0, 0, 0, 1, false);
        C.is("behind the last is no 0", found(h, 2), "none");
        BreedingHouse full = new BreedingHouse();
        Check.put(full, 1, 2, 3, 4, 5, 6, 7, 88);
        full.add(60, 60, 60, 88, 1, false);
        C.is("the eighth", found(full, 2), "(# 7)");
        full.drop(0);
        Check.put(full, 1, 2, 3, 4, 5, 6, 7, 8);
        full.add(60, 60, 60, 41, 1, false);
        Check.put(full, 1, 2, 3, 4, 5, 6, 7, 8);
        full.add(41, 61, 61, 57, 1, false);
        full.add(57, 62, 62, 0, 1, true);
        C.is("there is no ninth", found(full, 2), "none");
        String[] within = {"(~ (# 0))", "(+ x (# 0))", "(+ (# 0) x)"};
        int[][] wants = {{-33, 0}, {93, 60}, {93, 60}};
        for (int k = 0; k < 3; k++) {
            BreedingHouse one = new BreedingHouse();
            one.put(33);
            one.add(60, 70, 80, wants[k][0], 1, false);
            C.is(within[k] + " is right there", one.hits(Check.tree(one, within[k]), false), 1);
            one.add(60, 70, 80, wants[k][1], 1, false);
            C.is("a fault within is no 0", found(one, 4), "none");
        }
        BreedingHouse below = new BreedingHouse();
        Check.put(below, 7, 33);
        below.add(-1, 0, 0, 2, 1, false);
        C.is("nor one ahead of the first", found(below, 2).equals("(# x)"), false);
    }

    private static void searchWithoutCases() {
        C.about("Promise 48", "(without such CASES the first of all)");
        for (int size = 1; size <= 5; size++) {
            BreedingHouse h = new BreedingHouse();
            C.is("the first of all", found(h, size), "0");
            h.add(5, 5, 5, 5, 1, true);
            C.is("hidden ones alone", found(h, size), "0");
        }
    }

    private static void searchFinds() {
        C.about("Promise 48", "a BIRTH; -1 without one, and none is made");
        BreedingHouse h = new BreedingHouse();
        C.is("a birth", h.search(5), 0);
        C.is("its way", h.birth(0, 2), 1);
        h.add(0, 0, 0, MOST, 1, false);
        h.add(0, 0, 0, LEAST, 1, false);
        for (int size = 1; size <= 5; size++) {
            C.is("none of " + size, h.search(size), -1);
        }
        C.is("none is made", h.births(), 1);
        h.drop(1);
        h.drop(0);
        h.add(0, 0, 0, 0, 1, false);
        Check.fill(h, 599);
        C.is("the 600th", h.search(1), 599);
        C.fails("the 601st", Check.STATE, () -> h.search(1));
        C.about("Promise 3", "IllegalStateException: there are 600 BIRTHS (here and below).");
        h.add(0, 0, 0, 1, 1, false);
        C.fails("where none would be found, too", Check.STATE, () -> h.search(5));
        C.is("600 are there", h.births(), 600);
    }

    private static void searchSizes() {
        C.about("Promise 48", "IllegalArgumentException: size isn't 1 .. 5.");
        BreedingHouse h = new BreedingHouse();
        for (int size : new int[] {0, 6, -1, LEAST, MOST}) {
            C.fails("size " + size, Check.ARGUMENT, () -> h.search(size));
        }
        C.is("none was made", h.births(), 0);
    }

    /** A tree made simple; number is the last row's rule, -1 without rows. */
    private static void rule(String text, int number, String due) {
        BreedingHouse h = new BreedingHouse();
        int b = Check.tree(h, text);
        int s = h.simple(b);
        C.is(text, Check.print(h, s), due);
        C.is("rule of " + text, h.rows() == 0 ? -1 : h.row(h.rows() - 1, 1), number);
        C.is("proof of " + text, h.proves(b, s), true);
    }

    private static void stays(String text) {
        rule(text, -1, text);
    }

    private static void safe() {
        C.about("Term 8", "SAFE is a TREE's node with no /, %, # or @ in it, itself among it.");
        String[] unsafe = {"(/ x y)", "(% x y)", "(# x)", "(@ x y)", "(~ (/ x y))", "(+ y (% x y))",
                "(? (< (# x) 1) y z)", "(* (@ x s) y)"};
        String[] safe = {"x", "5", "n", "(~ x)", "(+ x y)", "(- x y)", "(* x y)",
                "(? (& (< x y) (| (= x y) (! (< x z)))) y z)"};
        for (String a : unsafe) {
            stays("(- " + a + " " + a + ")");
            stays("(* 0 " + a + ")");
            stays("(% " + a + " 1)");
            stays("(? (= " + a + " " + a + ") x y)");
            stays("(? (= " + a + " z) x x)");
        }
        for (String a : safe) {
            rule("(* 0 " + a + ")", a.equals("5") ? 0 : 7, "0");
            rule("(* " + a + " 0)", a.equals("5") ? 0 : 7, "0");
            rule("(? (= " + a + " z) x x)", 4, "x");
        }
        rule("(@ 1 (- s s))", 5, "(@ 1 0)");
        rule("(@ 1 (* e 0))", 7, "(@ 1 0)");
    }

    private static void rule0() {
        C.about("Term 8", "0: ~, +, -, * of CONSTANTS, / and % of CONSTANTS by another one than 0, if what comes of "
                + "it is a CONSTANT: that.");
        rule("(~ 99)", 0, "-99");
        rule("(~ -99)", 0, "99");
        rule("(~ 0)", 0, "0");
        rule("(+ 98 1)", 0, "99");
        stays("(+ 98 2)");
        rule("(+ -98 -1)", 0, "-99");
        stays("(+ -98 -2)");
        rule("(- -98 1)", 0, "-99");
        stays("(- -98 2)");
        rule("(- 98 -1)", 0, "99");
        stays("(- 98 -2)");
        rule("(* 33 3)", 0, "99");
        rule("(* 33 -3)", 0, "-99");
        stays("(* 50 2)");
        stays("(* 50 -2)");
        stays("(* 99 99)");
        rule("(/ 99 -99)", 0, "-1");
        rule("(/ -7 2)", 0, "-3");
        rule("(% -7 2)", 0, "-1");
        rule("(/ 0 5)", 0, "0");
        rule("(% 99 -1)", 0, "0");
        stays("(/ 0 0)");
        stays("(% 0 0)");
        stays("(/ 5 0)");
        stays("(# 0)");
        stays("(@ 1 2)");
        stays("(~ x)");
        stays("(+ x 5)");
        stays("(+ 5 x)");
        rule("(+ 98 (~ -1))", 0, "99");
    }

    private static void rule1() {
        C.about("Term 8", "1: a + 0, 0 + a, a - 0, a * 1, 1 * a, a / 1: a.");
        for (String a : new String[] {"x", "(# x)", "(/ x y)"}) {
            rule("(+ " + a + " 0)", 1, a);
            rule("(+ 0 " + a + ")", 1, a);
            rule("(- " + a + " 0)", 1, a);
            rule("(* " + a + " 1)", 1, a);
            rule("(* 1 " + a + ")", 1, a);
            rule("(/ " + a + " 1)", 1, a);
            stays("(- 0 " + a + ")");
            stays("(/ 1 " + a + ")");
            stays("(% 1 " + a + ")");
            stays("(+ " + a + " 1)");
            stays("(- " + a + " 1)");
            stays("(/ 0 " + a + ")");
            stays("(* " + a + " -1)");
        }
        stays("(@ x 0)");
        stays("(@ 0 x)");
        stays("(/ x 0)");
        rule("(+ 5 0)", 0, "5");
        stays("(+ (# x) (# x))");
        rule("(+ (+ 99 1) 0)", 1, "(+ 99 1)");
    }

    private static void rule2() {
        C.about("Term 8", "2: ~ of ~ of a, ! of ! of a: a.");
        rule("(~ (~ x))", 2, "x");
        rule("(~ (~ (# x)))", 2, "(# x)");
        rule("(~ (~ (~ x)))", 2, "(~ x)");
        rule("(? (! (! (< x y))) z n)", 2, "(? (< x y) z n)");
        stays("(~ (# x))");
        stays("(# (# x))");
        rule("(~ (~ 5))", 0, "5");
        rule(Trees.chain(12), 2, "(~ x)");
    }

    private static void rule3() {
        C.about("Term 8", "3: ? of < or = of two CONSTANTS: the second or third part.");
        rule("(? (< 1 2) x y)", 3, "x");
        rule("(? (< 2 2) x y)", 3, "y");
        rule("(? (< 3 2) x y)", 3, "y");
        rule("(? (= 2 2) x y)", 3, "x");
        rule("(? (= 1 2) x y)", 3, "y");
        rule("(? (< -99 99) (# x) (/ y 0))", 3, "(# x)");
        stays("(? (< 1 x) y z)");
        stays("(? (< x 1) y z)");
        stays("(? (& (< 1 2) (= 1 1)) y z)");
        rule("(? (< 1 2) x x)", 3, "x");
    }

    private static void rule4() {
        C.about("Term 8", "4: ? with a SAFE first part and alike second and third ones: these.");
        rule("(? (< x y) (/ x 0) (/ x 0))", 4, "(/ x 0)");
        rule("(? (& (< x y) (= x y)) 5 5)", 4, "5");
        stays("(? (< (# x) y) z z)");
        stays("(? (< x y) 5 6)");
        stays("(? (< x y) z (~ z))");
        stays("(? (< x y) (~ z) (# z))");
    }

    private static void rule5() {
        C.about("Term 8", "5: a - a with a SAFE: 0; ? of a = a, a SAFE: the second part; ? of a < a, a SAFE: the "
                + "third.");
        rule("(- x x)", 5, "0");
        rule("(- (+ x 5) (+ x 5))", 5, "0");
        rule("(- 5 5)", 0, "0");
        stays("(- (+ x 5) (+ x 6))");
        stays("(- x (~ x))");
        stays("(+ x x)");
        stays("(/ x x)");
        rule("(? (= x x) (# y) z)", 5, "(# y)");
        rule("(? (< x x) z (# y))", 5, "(# y)");
        stays("(? (= x y) 1 2)");
        stays("(? (= (# x) (# x)) 1 2)");
        stays("(? (< (% x y) (% x y)) 1 2)");
        stays("(? (& (= x x) (< x x)) 1 2)");
    }

    private static void rule6() {
        C.about("Term 8", "6: ? of ! of t, a, b: ? of t, b, a.");
        rule("(? (! (< x y)) 1 (# z))", 6, "(? (< x y) (# z) 1)");
        rule("(? (! (< (# x) y)) 1 1)", 6, "(? (< (# x) y) 1 1)");
        rule("(? (! (& (< x y) (= x z))) 1 2)", 6, "(? (& (< x y) (= x z)) 2 1)");
        stays("(? (& (! (< x y)) (= x z)) 1 2)");
        rule("(? (! (! (! (< x y)))) 1 2)", 6, "(? (< x y) 2 1)");
    }

    private static void rules7And8() {
        C.about("Term 8", "7: 0 * a, a * 0 with a SAFE: 0. 8: a % 1 with a SAFE: 0.");
        rule("(* 0 x)", 7, "0");
        rule("(* x 0)", 7, "0");
        stays("(* 0 (# x))");
        stays("(* (/ x y) 0)");
        rule("(* 0 0)", 0, "0");
        rule("(* 0 1)", 0, "0");
        stays("(* x 2)");
        rule("(% x 1)", 8, "0");
        stays("(% x 0)");
        stays("(% x 2)");
        stays("(% x -1)");
        stays("(% (# x) 1)");
        stays("(% 1 x)");
        stays("(/ 0 x)");
    }

    private static void greatestNode() {
        C.about("Term 8", "that is done at the node with the greatest number at which one does, the least such RULE; "
                + "each time is a ROW.");
        BreedingHouse h = new BreedingHouse();
        h.simple(Check.tree(h, "(+ (+ x 0) (+ y 0))"));
        int[] due = {4, 1, 1, 1};
        C.is("rows", h.rows(), 2);
        for (int k = 0; k < 4; k++) {
            C.is("row", h.row(k / 2, k % 2), due[k]);
        }
        h.simple(Check.tree(h, "(? (! (= x x)) y y)"));
        C.is("rules 4 and 6 fit", h.row(0, 1), 4);
        C.is("one row", h.rows(), 1);
        h.simple(Check.tree(h, "(? (= 1 1) y y)"));
        C.is("rules 3, 4 and 5 fit", h.row(0, 1), 3);
        h.simple(Check.tree(h, "(? (= x x) y y)"));
        C.is("rules 4 and 5 fit", h.row(0, 1), 4);
        h.simple(Check.tree(h, "(* 0 1)"));
        C.is("rules 0, 1 and 7 fit", h.row(0, 1), 0);
        h.simple(Check.tree(h, "(* 1 (* x 0))"));
        C.is("the inner one first", h.row(0, 0), 2);
        C.is("then 0 is worked", h.row(1, 1), 0);
    }

    private static void simpleWithoutRows() {
        C.about("Promise 49", "A TREE made SIMPLE; its ROWS are those told then.");
        BreedingHouse h = new BreedingHouse();
        int x = Check.tree(h, "x");
        int some = Check.tree(h, "(+ x 0)");
        h.simple(some);
        C.is("one", h.rows(), 1);
        int s = h.simple(x);
        C.is("the same", h.same(x, s), true);
        C.is("none then", h.rows(), 0);
        C.is("nothing of the old ones", h.row(0, 0), -1);
        int full = Check.tree(h, Trees.sum(30, "0").replaceFirst("0", "(~ 0)"));
        C.is("60 nodes", h.birth(full, 1), 60);
        C.is("become one", Check.print(h, h.simple(full)), "0");
        C.is("by 30 rows", h.rows(), 30);
        C.is("the last at the whole", h.row(29, 0), 0);
        C.is("none behind", h.row(30, 0), -1);
        C.about("Promise 49", "IllegalArgumentException: it is no TREE.");
        int[] others = {Check.code(h, "x"), Check.machine(h, "1:0000"), Check.net(h, "2:")};
        for (int b : others) {
            C.fails("kind " + h.birth(b, 0), Check.ARGUMENT, () -> h.simple(b));
        }
        C.is("the rows stay", h.rows(), 30);
        for (int none : new int[] {-1, h.births(), LEAST, MOST}) {
            C.fails("birth " + none, Check.INDEX, () -> h.simple(none));
        }
    }

    private static void rowsAndOthers() {
        C.about("Promise 50", "How many ROWS the latest simple() had; 0 ahead of one.");
        BreedingHouse h = new BreedingHouse();
        C.is("ahead of one", h.rows(), 0);
        int b = Check.tree(h, "(+ (~ 5) 0)");
        C.is("still", h.rows(), 0);
        h.simple(b);
        C.is("two", h.rows(), 2);
        h.equal(Check.tree(h, "(+ 0 (~ (~ x)))"), Check.tree(h, "(* 1 (* 1 (* 1 x)))"));
        h.proves(b, b);
        h.minimal(b);
        C.is("others leave them", h.rows(), 2);
        C.about("Promise 51", "Of ROW k: the node (what 0), the RULE (1); -1 for others.");
        C.is("the first", h.row(0, 0), 1);
        C.is("its rule", h.row(0, 1), 0);
        C.is("the last", h.row(1, 0), 0);
        C.is("its rule", h.row(1, 1), 0);
        for (int k : new int[] {-1, 2, LEAST, MOST}) {
            C.is("row " + k, h.row(k, 0), -1);
            C.is("row " + k, h.row(k, 1), -1);
        }
        for (int what : new int[] {-1, 2, LEAST, MOST}) {
            C.is("what " + what, h.row(0, what), -1);
        }
        C.is("ahead of one", new BreedingHouse().row(0, 0), -1);
    }

    private static void provesTrees() {
        C.about("Promise 52", "not if one of them is no TREE (also without ROWS); of TREES without ROWS whether both "
                + "are the same");
        BreedingHouse h = new BreedingHouse();
        int[] births = {Check.tree(h, "x"), Check.code(h, "x"), Check.machine(h, "1:0000"), Check.net(h, "2:")};
        int same = Check.tree(h, "x");
        int other = Check.tree(h, "(+ x 0)");
        for (int a : births) {
            for (int b : births) {
                C.is("kinds " + a + " and " + b, h.proves(a, b), a == 0 && b == 0);
            }
        }
        C.is("the same", h.proves(0, same), true);
        C.is("not the same", h.proves(0, other), false);
        C.is("not the same", h.proves(other, 0), false);
        h.simple(other);
        for (int a = 1; a < 4; a++) {
            C.is("with rows", h.proves(other, births[a]), false);
            C.is("with rows", h.proves(births[a], 0), false);
        }
        for (int none : new int[] {-1, 99, LEAST, MOST}) {
            C.fails("a is " + none, Check.INDEX, () -> h.proves(none, 0));
            C.fails("b is " + none, Check.INDEX, () -> h.proves(0, none));
        }
    }

    private static void provesRows() {
        C.about("Promise 52", "Whether these ROWS, one by one, each RULE fitting at its node, lead from a to b");
        BreedingHouse h = new BreedingHouse();
        int x = Check.tree(h, "x");
        int y = Check.tree(h, "y");
        int b = Check.tree(h, "(- (+ y (~ 5)) 0)");
        h.simple(b);
        C.is("two rows", h.rows(), 2);
        h.equal(x, Check.tree(h, "(+ x 0)"));
        C.is("themselves", h.proves(b, Check.tree(h, "(+ y -5)")), true);
        C.is("they lead elsewhere", h.proves(b, y), false);
        C.is("one row isn't all", h.proves(b, Check.tree(h, "(- (+ y -5) 0)")), false);
        C.is("a node that there isn't", h.proves(x, x), false);
        C.is("the first doesn't fit", h.proves(Check.tree(h, "(- (+ y -5) 0)"), Check.tree(h, "(+ y -5)")), false);
        C.is("the second doesn't fit", h.proves(Check.tree(h, "(- (+ y (~ 5)) 1)"), Check.tree(h, "(- (+ y -5) 1)")),
                false);
        C.is("a rule that isn't the least one there", h.proves(Check.tree(h, "(+ (* 0 (~ 7)) 0)"), Check.tree(h,
                "(* 0 -7)")), true);
        C.is("of other trees", h.proves(Check.tree(h, "(* (- x (~ 9)) 1)"), Check.tree(h, "(- x -9)")), true);
    }

    private static void equalIs(int kind, String a, String b, int due) {
        BreedingHouse h = new BreedingHouse();
        C.is("equal of " + a + " and " + b, h.equal(Check.read(h, kind, a), Check.read(h, kind, b)), due);
    }

    private static void equalMachines() {
        C.about("Term 8", "two MACHINES: 1 if the OUTCOMES are alike for ROWS of any length (and any LIMIT), else 0.");
        equalIs(2, "5:0000", "5:0000", 1);
        equalIs(2, "5:0000", "6:0000", 0);
        equalIs(2, "5:0000", "5:1111;5:0000", 1);
        equalIs(2, "5:0000;6:1111", "5:0000", 1);
        equalIs(2, "5:0001;6:1111", "5:0000", 0);
        // Alike on all rows of up to 9 numbers, so on all that a case can have.
        String six = "0:1111;0:2222;0:3333;0:4444;0:5555;1:0000";
        String five = "0:1111;0:2222;0:3333;0:4444;0:5555;1:1111";
        equalIs(2, six, five, 0);
        equalIs(2, five, five, 1);
        BreedingHouse h = new BreedingHouse();
        h.set(0, 10);
        C.is("any limit", h.equal(Check.machine(h, six), Check.machine(h, five)), 0);
    }

    private static void equalNets() {
        C.about("Term 8", "Two NETS of as many lines: 1 if they are for all ROWS (and no LIMIT), else 0.");
        equalIs(3, "2:", "2:", 1);
        equalIs(3, "2:", "2:01", 0);
        equalIs(3, "2:01", "2:01" + Check.repeat(",01", 39), 1);
        equalIs(3, "8:", "8:45,46,47,56,57,67,01,02,12", 1);
        equalIs(3, "8:", "8:34", 0);
        for (int lines = 2; lines <= 8; lines++) {
            int middle = (lines - 1) / 2;
            for (int i = 0; i < lines; i++) {
                for (int j = i + 1; j < lines; j++) {
                    equalIs(3, lines + ":", lines + ":" + i + j, i == middle || j == middle ? 0 : 1);
                }
            }
        }
        equalIs(3, SORTS8, SORTS8.replace(",34", ""), 0);
        BreedingHouse h = new BreedingHouse();
        h.set(0, 10);
        int many = Check.net(h, "2:01" + Check.repeat(",01", 39));
        C.is("no limit", h.equal(many, Check.net(h, "2:01")), 1);
        C.is("no limit", h.equal(many, Check.net(h, "2:")), 0);
        C.about("Term 8", "Others: 1 if both have TREES and these, made SIMPLE, are the same.");
        equalIs(3, "2:", "3:", 0);
        BreedingHouse g = new BreedingHouse();
        C.is("nets of other lines have no trees", g.equal(Check.net(g, "3:01,12"), Check.net(g, "4:01,12")), 2);
    }

    private static void equalTrees() {
        C.about("Promise 53", "1 EQUAL, 0 shown not to be, 2 neither");
        equalIs(0, "x", "x", 1);
        equalIs(0, "(+ x 0)", "(* 1 x)", 1);
        equalIs(0, "x", "y", 0);
        equalIs(0, "(+ x y)", "(+ y x)", 2);
        equalIs(0, "(/ 1 0)", "(% 1 0)", 2);
        equalIs(0, "(/ 1 0)", "(# -1)", 0);
        equalIs(0, "(/ 1 0)", "(/ 1 0)", 1);
        equalIs(1, "x y +", "x y +", 1);
        equalIs(1, "x y +", "x 0 + y +", 1);
        equalIs(1, "x y +", "y x +", 2);
        BreedingHouse h = new BreedingHouse();
        C.is("code and tree", h.equal(Check.code(h, "x 1 *"), Check.tree(h, "x")), 1);
        C.is("code and tree", h.equal(Check.code(h, "x y + z <"), Check.tree(h, "(? (< (+ x y) z) 1 0)")), 1);
        C.is("rule 6 and none", h.equal(Check.tree(h, "(? (! (< x y)) 1 2)"), Check.tree(h, "(? (< x y) 2 1)")), 1);
        C.is("tree and code", h.equal(Check.tree(h, "x"), Check.code(h, "x 1 *")), 1);
        C.is("a machine and a tree", h.equal(Check.machine(h, "3:0000"), Check.tree(h, "3")), 2);
        C.is("a net and code", h.equal(Check.net(h, "2:"), Check.code(h, "9")), 0);
        for (int none : new int[] {-1, 99, LEAST, MOST}) {
            C.fails("a is " + none, Check.INDEX, () -> h.equal(none, 0));
            C.fails("b is " + none, Check.INDEX, () -> h.equal(0, none));
        }
    }

    private static void shown(String a, String b, int... due) {
        BreedingHouse h = new BreedingHouse();
        int p = Check.tree(h, a);
        int q = Check.tree(h, b);
        C.is("equal of " + a + " and " + b, h.equal(p, q), due.length == 0 ? 2 : 0);
        C.is("and the other way round", h.equal(q, p), due.length == 0 ? 2 : 0);
        C.witnessIs(h, due);
    }

    private static void equalTries() {
        C.about("Term 8", "then x, y, z each -2, -1, .. 2 (z the fastest, x the slowest) with the ROW without "
                + "numbers, then all these with the ROW 1, 2, 3");
        shown("x", "0", -2, -2, -2);
        shown("(? (= x 2) 1 0)", "0", 2, -2, -2);
        shown("(? (= x 3) 1 0)", "0");
        shown("(? (= x -3) 1 0)", "0");
        shown("(? (= y 2) 1 0)", "0", -2, 2, -2);
        shown("(? (= y 3) 1 0)", "0");
        shown("(? (= y -3) 1 0)", "0");
        shown("(? (= z 2) 1 0)", "0", -2, -2, 2);
        shown("(? (= z 3) 1 0)", "0");
        shown("(? (= z -3) 1 0)", "0");
        shown("(? (& (= x 2) (& (= y 2) (= z 2))) 1 0)", "0", 2, 2, 2);
        shown("(? (| (= x -1) (| (= y -1) (= z -1))) 1 0)", "0", -2, -2, -1);
        shown("(? (| (= x -1) (= y -1)) 1 0)", "0", -2, -1, -2);
        shown("n", "0", -2, -2, -2, 3, 1, 2, 3);
        shown("(? (= n 3) (? (= (# 2) 3) 1 0) 0)", "0", -2, -2, -2, 3, 1, 2, 3);
        shown("(? (& (= n 3) (& (= x 2) (& (= y 2) (= z 2)))) 1 0)", "0", 2, 2, 2, 3, 1, 2, 3);
        shown("(? (= n 4) 1 0)", "0");
        shown("(? (= n 0) 1 0)", "0", -2, -2, -2);
        shown("(# 0)", "(/ 1 0)", -2, -2, -2);
        shown("(# 0)", "(# 3)", -2, -2, -2, 3, 1, 2, 3);
    }

    private static void equalCases() {
        C.about("Term 8", "Else these are tried: the CASES in order");
        BreedingHouse h = new BreedingHouse();
        int p = Check.tree(h, "x");
        int q = Check.tree(h, "y");
        h.add(9, 9, 9, 0, 1, false);
        Check.put(h, 1, 2, 3, 4, 5, 6, 7, 8);
        h.add(MOST, LEAST, 7, 0, 1, true);
        h.add(4, 5, 6, 0, 1, false);
        C.is("shown by a hidden case", h.equal(p, q), 0);
        C.witnessIs(h, MOST, LEAST, 7, 8, 1, 2, 3, 4, 5, 6, 7, 8);
        h.drop(1);
        h.equal(p, q);
        C.is("the last case", h.witness(0), 4);
        C.is("has no row", h.witness(3), 0);
        C.is("and nothing of the old one", h.witness(4), 0);
        h.drop(1);
        h.equal(p, q);
        C.is("no case shows it", h.witness(0), -2);
    }

    private static void equalByLimit() {
        C.about("Term 8", "0 with the first on which the OUTCOMES are not alike and neither is FAULT 3; 2 if there "
                + "is none such");
        BreedingHouse h = new BreedingHouse();
        int longer = Check.tree(h, "(+ 0 " + Trees.sum(5, "y") + ")");
        int x = Check.tree(h, "x");
        h.set(0, 10);
        C.is("11 steps", h.equal(longer, x), 2);
        C.is("the other way round", h.equal(x, longer), 2);
        h.set(0, 11);
        C.is("11 steps", h.equal(longer, x), 0);
        h.set(0, 10);
        int some = Check.tree(h, "(? (= x 0) 5 " + Trees.sum(5, "y") + ")");
        C.is("the first that neither is too long for", h.equal(some, Check.tree(h, "6")), 0);
        C.is("x is 0", h.witness(0), 0);
        C.is("both too long", h.equal(longer, Check.tree(h, Trees.sum(7, "z"))), 2);
    }

    private static void codeWithoutTree() {
        C.about("Promise 53", "(so of CODE that has no TREE and itself)");
        BreedingHouse h = new BreedingHouse();
        int j = Check.code(h, "x j0");
        C.is("itself", h.equal(j, j), 2);
        int u = Check.code(h, "x y / o z");
        C.is("itself", h.equal(u, u), 2);
        int t = Check.code(h, "x");
        C.is("code that has one", h.equal(t, t), 1);
        C.is("nets and machines are EQUAL to themselves", h.equal(Check.net(h, "2:"), Check.net(h, "2:")), 1);
    }

    private static void witnessAheadOfOne() {
        C.about("Promise 54", "Of the latest equal() that was 0 (others leave that as it is)");
        BreedingHouse h = new BreedingHouse();
        int x = Check.tree(h, "x");
        int y = Check.tree(h, "y");
        h.add(7, 8, 9, 0, 1, false);
        h.equal(x, x);
        C.is("1 shows nothing", h.witness(0), 0);
        h.equal(x, y);
        C.is("0 does", h.witness(0), 7);
        h.equal(x, x);
        C.is("1 leaves it", h.witness(0), 7);
        h.equal(Check.tree(h, "(+ x y)"), Check.tree(h, "(+ y x)"));
        C.is("2 leaves it", h.witness(1), 8);
        h.drop(0);
        C.is("dropping the case leaves it", h.witness(2), 9);
        h.equal(x, y);
        C.is("0 doesn't", h.witness(0), -2);
        C.about("Promise 54", "0 ahead of one");
        BreedingHouse g = new BreedingHouse();
        C.witnessIs(g);
    }

    private static void witnessOfMachines() {
        C.about("Promise 54", "Of two MACHINES x, y, z are 0 and the ROW is the shortest, of these the least by its "
                + "first number, the second, .., of numbers 0 .. 3");
        BreedingHouse h = new BreedingHouse();
        h.equal(Check.tree(h, "x"), Check.tree(h, "1"));
        int one = Check.machine(h, "1:0000");
        h.equal(one, Check.machine(h, "2:0000"));
        C.witnessIs(h);
        for (int c = 0; c < 4; c++) {
            String edges = "0000".substring(0, c) + "1" + "0000".substring(c + 1);
            h.equal(Check.machine(h, "1:" + edges + ";2:0000"), one);
            C.witnessIs(h, 0, 0, 0, 1, c);
        }
        h.equal(Check.machine(h, "1:0011;2:0000"), one);
        C.witnessIs(h, 0, 0, 0, 1, 2);
        h.equal(Check.machine(h, "1:1200;1:0003;1:3000;2:0000"), one);
        C.witnessIs(h, 0, 0, 0, 2, 0, 3);
        h.equal(Check.machine(h, "0:0001;0:0002;0:0003;0:0004;0:0005;1:0000"), Check.machine(h,
                "0:0001;0:0002;0:0003;0:0004;0:0005;0:0000"));
        C.witnessIs(h, 0, 0, 0, 5, 3, 3, 3, 3, 3);
        h.equal(Check.machine(h, "0:0001;0:1112;0:2223;0:3334;0:4445;1:5550"), Check.machine(h,
                "0:0001;0:1112;0:2223;0:3334;0:4445;1:5551"));
        C.witnessIs(h, 0, 0, 0, 10, 3, 3, 3, 3, 3, 3, 3, 3, 3, 3);
        h.equal(one, Check.machine(h, "1:1111;1:2222;2:0000"));
        C.witnessIs(h, 0, 0, 0, 2, 0, 0);
        h.equal(Check.machine(h, "1:1111;1:2222;2:0000"), one);
        C.witnessIs(h, 0, 0, 0, 2, 0, 0);
        // 25 pairs of states can be come to, 15 of them by up to four numbers.
        int p = Check.machine(h, "0:1000;0:2111;0:3222;0:4333;0:0454;1:5555");
        int q = Check.machine(h, "0:0100;0:1211;0:2322;0:3433;0:4054;1:5555");
        C.is("not equal", h.equal(p, q), 0);
        C.witnessIs(h, 0, 0, 0, 5, 0, 0, 0, 0, 2);
        C.is("not equal", h.equal(q, p), 0);
        C.witnessIs(h, 0, 0, 0, 5, 0, 0, 0, 0, 2);
    }

    private static void witnessAnew() {
        C.about("Promise 54", "3 how many its ROW has, 4 .. 14 these (0 behind the last)");
        String six = "0:0001;0:1112;0:2223;0:3334;0:4445;1:5550";
        String five = "0:0001;0:1112;0:2223;0:3334;0:4445;1:5551";
        BreedingHouse h = new BreedingHouse();
        h.equal(Check.machine(h, six), Check.machine(h, five));
        h.equal(Check.tree(h, "n"), Check.tree(h, "0"));
        C.witnessIs(h, -2, -2, -2, 3, 1, 2, 3);
        h.equal(Check.machine(h, six), Check.machine(h, five));
        h.equal(Check.net(h, "2:"), Check.net(h, "2:01"));
        C.witnessIs(h, 0, 0, 0, 2, 1, 0);
        h.equal(Check.machine(h, six), Check.machine(h, five));
        h.equal(Check.machine(h, "1:0000"), Check.machine(h, "2:0000"));
        C.witnessIs(h);
    }

    private static void witnessOfNets() {
        C.about("Promise 54", "of two NETS the ROW is the ZERO-ONE ROW, LINES long, of the least number");
        BreedingHouse h = new BreedingHouse();
        h.add(5, 6, 7, 0, 1, false);
        h.equal(Check.tree(h, "x"), Check.tree(h, "1"));
        h.equal(Check.net(h, "2:"), Check.net(h, "2:01"));
        C.witnessIs(h, 0, 0, 0, 2, 1, 0);
        h.equal(Check.net(h, "8:"), Check.net(h, "8:37"));
        C.witnessIs(h, 0, 0, 0, 8, 0, 0, 0, 1);
        h.equal(Check.net(h, "8:"), Check.net(h, "8:03"));
        C.witnessIs(h, 0, 0, 0, 8, 1);
        h.equal(Check.net(h, "3:01,12"), Check.net(h, "3:01,12,01"));
        C.witnessIs(h, 0, 0, 0, 3, 1, 1);
        h.equal(Check.net(h, "4:01,12,23,12"), Check.net(h, "4:01,12,23,01,12"));
        C.witnessIs(h, 0, 0, 0, 4, 1, 1, 0, 1);
    }

    private static void anotherWitness() {
        C.about("Promise 54", "IllegalArgumentException: another what.");
        BreedingHouse h = new BreedingHouse();
        for (int what : new int[] {-1, 15, LEAST, MOST}) {
            C.fails("what " + what, Check.ARGUMENT, () -> h.witness(what));
        }
        C.is("14 is the last", h.witness(14), 0);
    }

    private static String minimal(BreedingHouse h, int kind, String text) {
        return Check.print(h, h.minimal(Check.read(h, kind, text)));
    }

    private static void minimalTrees() {
        C.about("Promise 55", "As long as one of its EDITS of HOW 3 (TREES, MACHINES), 2 (CODE), 1 (NETS) has no "
                + "greater SCORE over SEEN CASES, the first such is done: what comes of it.");
        BreedingHouse h = new BreedingHouse();
        C.is("a leaf", minimal(h, 0, "y"), "y");
        int sum = Check.tree(h, "(+ z n)");
        int other = Check.tree(h, "(* 1 2)");
        C.is("of the one that is told", Check.print(h, h.minimal(sum)), "z");
        C.is("of the one that is told", Check.print(h, h.minimal(other)), "1");
        C.is("without cases the first part", minimal(h, 0, "(+ y x)"), "y");
        C.is("60 nodes", minimal(h, 0, Trees.ofSize(60)), "x");
        C.is("12 deep", minimal(h, 0, Trees.chain(12)), "x");
        C.is("a condition", minimal(h, 0, "(? (! (< x y)) z n)"), "z");
        h.add(5, 5, 5, 77, 1, true);
        C.is("hidden ones don't count", minimal(h, 0, "(+ y x)"), "y");
    }

    private static void minimalOthers() {
        C.about("Promise 55", "HOW 3 (TREES, MACHINES), 2 (CODE), 1 (NETS)");
        BreedingHouse h = new BreedingHouse();
        C.is("code", minimal(h, 1, "x"), "x");
        C.is("60 instructions", minimal(h, 1, "x" + Check.repeat(" ~", 59)), "x");
        C.is("a machine", minimal(h, 2, "7:0000"), "7:0000");
        C.is("six states", minimal(h, 2, "7:5432" + Check.repeat(";8:1234", 5)), "7:0000");
        C.is("a net", minimal(h, 3, "4:"), "4:");
        C.is("40 comparators", minimal(h, 3, "8:01" + Check.repeat(",67", 39)), "8:");
        C.is("its parent", h.birth(h.births() - 1, 3), h.births() - 2);
        for (int none : new int[] {-1, h.births(), LEAST, MOST}) {
            C.fails("birth " + none, Check.INDEX, () -> h.minimal(none));
        }
        Check.fill(h, 599);
        C.is("the 600th", h.minimal(0), 599);
        C.fails("the 601st", Check.STATE, () -> h.minimal(0));
    }

    private static void minimalScores() {
        C.about("Promise 55", "has no greater SCORE over SEEN CASES");
        BreedingHouse h = new BreedingHouse();
        h.add(4, 1, 0, 5, 1, false);
        h.add(4, 1, 0, 99, 9, true);
        C.is("greater ones aren't done", minimal(h, 0, "(+ x y)"), "(+ x y)");
        C.is("the same is", minimal(h, 0, "(+ x (+ y (- y y)))"), "(+ x y)");
        C.is("lesser is", minimal(h, 0, "(+ (+ x y) 1)"), "(+ x y)");
        C.is("against what it is by then", minimal(h, 0, "(- (+ x (+ y y)) y)"), minimalByHand(h,
                "(- (+ x (+ y y)) y)"));
        C.is("code", minimal(h, 1, "x y + ~ ~ ~ ~"), "x y +");
        h.set(0, 10);
        C.is("what has too many steps", minimal(h, 0, "(+ (+ x y) " + Trees.sum(4, "0") + ")"), minimalByHand(h,
                "(+ (+ x y) " + Trees.sum(4, "0") + ")"));
    }

    /** The same, step by step, with edit() and score(). */
    private static String minimalByHand(BreedingHouse h, String text) {
        int b = Check.tree(h, text);
        boolean more = true;
        while (more) {
            more = false;
            int many = h.edits(b, 3);
            for (int i = 0; i < many && !more; i++) {
                int c = h.edit(b, 3, i);
                if (h.score(c, false, 0) <= h.score(b, false, 0)) {
                    b = c;
                    more = true;
                }
            }
        }
        return Check.print(h, b);
    }

    private static void robustCounts() {
        C.about("Promise 56", "Of its EDITS of a HOW: how many have a lesser (what 0), the same (1), a greater SCORE "
                + "over SEEN CASES (2).");
        BreedingHouse h = new BreedingHouse();
        int five = Check.tree(h, "5");
        int x = Check.tree(h, "x");
        int[] none = {0, 5, 0};
        for (int what = 0; what < 3; what++) {
            C.is("without cases", h.robust(five, 0, what), none[what]);
            C.is("without edits", h.robust(x, 0, what), 0);
        }
        h.add(0, 0, 0, 5, 1, true);
        C.is("hidden ones don't count", h.robust(five, 0, 1), 5);
        // 6, 4, 15, -5, -5.
        int[][] due = {{5, 0, 0, 5}, {10, 1, 1, 3}, {6, 1, 0, 4}, {0, 1, 2, 2}, {-5, 3, 0, 2}};
        for (int[] one : due) {
            int k = h.add(0, 0, 0, one[0], 1, false);
            for (int what = 0; what < 3; what++) {
                C.is("want " + one[0] + " what " + what, h.robust(five, 0, what), one[1 + what]);
            }
            h.drop(k);
        }
    }

    private static void robustWrong() {
        C.about("Promise 56", "IllegalArgumentException: how, what.");
        BreedingHouse h = new BreedingHouse();
        int b = Check.tree(h, "5");
        for (int other : new int[] {-1, 4, LEAST, MOST}) {
            C.fails("how " + other, Check.ARGUMENT, () -> h.robust(b, other, 0));
        }
        for (int other : new int[] {-1, 3, LEAST, MOST}) {
            C.fails("what " + other, Check.ARGUMENT, () -> h.robust(b, 0, other));
        }
        for (int none : new int[] {-1, 1, LEAST, MOST}) {
            C.fails("birth " + none, Check.INDEX, () -> h.robust(none, 0, 0));
        }
        C.is("how 3, what 2", h.robust(b, 3, 2), 0);
    }

    private static String compiled(int kind, String text) {
        BreedingHouse h = new BreedingHouse();
        int b = Check.read(h, kind, text);
        int c = h.compile(b, 1 - kind);
        C.is("births", h.births(), c < 0 ? 1 : 2);
        C.is("-1 or the birth", c, c < 0 ? -1 : 1);
        return c < 0 ? "none" : Check.print(h, c);
    }

    private static void codeOfTrees() {
        C.about("Promise 57", "leaves as they are; of one or two parts: these, then its sign; ! of t: t, PUSH 0, = ; "
                + "& of t, u: t, b to the last, u, j 1, PUSH 0; | of t, u: t, b 2, PUSH 1, j over u, u; ? of t, u, "
                + "v: t, b to v, u, j over v, v");
        C.is("leaves", compiled(0, "-99"), "-99");
        C.is("leaves", compiled(0, "n"), "n");
        String[] signs = {"+", "-", "*", "/", "%"};
        for (String sign : signs) {
            C.is(sign, compiled(0, "(" + sign + " x 1)"), "x 1 " + sign);
        }
        C.is("~", compiled(0, "(~ x)"), "x ~");
        C.is("#", compiled(0, "(# x)"), "x #");
        C.is("?", compiled(0, "(? (< x y) 1 2)"), "x y < b2 1 j1 2");
        C.is("=", compiled(0, "(? (= x y) (+ 1 2) (~ (~ 3)))"), "x y = b4 1 2 + j3 3 ~ ~");
        C.is("!", compiled(0, "(? (! (= x y)) 1 2)"), "x y = 0 = b2 1 j1 2");
        C.is("&", compiled(0, "(? (& (= x y) (< y z)) 1 2)"), "x y = b4 y z < j1 0 b2 1 j1 2");
        C.is("|", compiled(0, "(? (| (= x y) (< y z)) 1 2)"), "x y = b2 1 j3 y z < b2 1 j1 2");
    }

    private static void codeOfDeepTrees() {
        C.about("Promise 57", "if that has at most 60 instructions and is SOUND");
        C.is("12 deep", compiled(0, Trees.chain(12)), "x" + Check.repeat(" ~", 11));
        C.is("12 deep in first parts", compiled(0, Check.repeat("(+ ", 11) + "x" + Check.repeat(" 2)", 11)), "x"
                + Check.repeat(" 2 +", 11));
        C.is("12 deep in second parts", compiled(0, "(+ 1 (+ 2 (+ 3 (+ 4 (+ 5 (+ 6 (~ (~ (~ (~ (~ x)))))))))))"),
                "1 2 3 4 5 6 x ~ ~ ~ ~ ~ + + + + + +");
        C.is("12 deep in third parts", compiled(0, Check.repeat("(? (= 1 2) 3 ", 9) + "(~ (~ x))" + Check.repeat(")",
                9)),
                "1 2 = b2 3 j51 1 2 = b2 3 j45 1 2 = b2 3 j39 1 2 = b2 3 j33 1 2 = b2 3 j27 1 2 = b2 3 j21 1 2 = b2 3 "
                + "j15 "
                + "1 2 = b2 3 j9 1 2 = b2 3 j3 x ~ ~");
        C.is("12 deep in &", compiled(0, "(? " + Check.repeat("(& (= 1 1) ", 8) + "(= (~ 1) 1)" + Check.repeat(")", 8)
                + " x 3)"),
                "1 1 = b47 1 1 = b41 1 1 = b35 1 1 = b29 1 1 = b23 1 1 = b17 1 1 = b11 1 1 = b5 1 ~ 1 ="
                + Check.repeat(" j1 0", 8) + " b2 x j1 3");
        C.is("12 deep in |", compiled(0, "(? " + Check.repeat("(| (= 1 1) ", 8) + "(= (~ 1) 1)" + Check.repeat(")", 8)
                + " x 3)"),
                "1 1 = b2 1 j46 1 1 = b2 1 j40 1 1 = b2 1 j34 1 1 = b2 1 j28 1 1 = b2 1 j22 1 1 = b2 1 j16 1 1 = b2 1 "
                + "j10 "
                + "1 1 = b2 1 j4 1 ~ 1 = b2 x j1 3");
    }

    private static void codeTooLong() {
        C.about("Promise 57", "if that has at most 60 instructions and is SOUND");
        C.is("60 of 60 nodes", compiled(0, Trees.ofSize(60)).split(" ").length, 60);
        String condition = "(? (< x y) 1 " + Trees.ofSize(54) + ")";
        C.is("59 nodes", Trees.nodes(condition), 59);
        C.is("60 instructions", compiled(0, condition).split(" ").length, 60);
        String longer = "(? (< x y) 1 " + Trees.ofSize(55) + ")";
        C.is("60 nodes", Trees.nodes(longer), 60);
        C.is("61 instructions", compiled(0, longer), "none");
        C.is("61 by j 1, PUSH 0", compiled(0, "(? (& (< x y) (< x y)) 1 " + Trees.ofSize(49) + ")"), "none");
        C.is("60 by j 1, PUSH 0", compiled(0, "(? (& (< x y) (< x y)) 1 " + Trees.ofSize(48) + ")").split(" ").length,
                60);
        C.is("61 by !", compiled(0, "(? (! (< x y)) 1 " + Trees.ofSize(53) + ")"), "none");
        C.is("60 by !", compiled(0, "(? (! (< x y)) 1 " + Trees.ofSize(52) + ")").split(" ").length, 60);
    }

    private static void codeTooHigh() {
        C.about("Promise 57", "-1, and none is made, if that can't be");
        String right = "x";
        for (int k = 1; k < 8; k++) {
            right = "(+ y " + right + ")";
        }
        C.is("a pile of 8", compiled(0, right), Check.repeat("y ", 7) + "x" + Check.repeat(" +", 7));
        C.is("a pile of 9", compiled(0, "(+ y " + right + ")"), "none");
        C.is("a pile of 8, the other way round", compiled(0, "(+ " + right + " y)"), Check.repeat("y ", 7) + "x"
                + Check.repeat(" +", 7) + " y +");
    }

    private static void codeOfFolds() {
        C.about("Promise 57", "CODE (1) of a TREE without FOLD");
        C.is("a fold", compiled(0, "(@ x y)"), "none");
        C.is("a fold within", compiled(0, "(? (< x y) 1 (~ (@ x s)))"), "none");
        C.about("Promise 57", "(told behind 600 BIRTHS)");
        BreedingHouse h = new BreedingHouse();
        int fold = Check.tree(h, "(@ x y)");
        int jump = Check.code(h, "x j0");
        int x = Check.tree(h, "x");
        Check.fill(h, 599);
        C.is("can't be", h.compile(fold, 1), -1);
        C.is("can't be", h.compile(jump, 0), -1);
        C.is("the 600th", h.compile(x, 1), 599);
        C.fails("the 601st", Check.STATE, () -> h.compile(x, 1));
        C.fails("what can't be, too", Check.STATE, () -> h.compile(fold, 1));
        C.fails("what can't be, too", Check.STATE, () -> h.compile(jump, 0));
    }

    private static void treeOfJumps() {
        C.about("Term 8", "of CODE without j and b (of any distance)");
        C.is("j", compiled(1, "x j0"), "none");
        C.is("b", compiled(1, "x y b0"), "none");
        C.is("b over something", compiled(1, "x y b1 ~"), "none");
        C.is("neither", compiled(1, "x"), "x");
        String all = "x y z n ~ # + - * 1 / 2 % 3 +";
        C.is("all else", compiled(1, all), "(+ (% (/ (* x (- y (+ z (# (~ n))))) 1) 2) 3)");
    }

    private static void treeOfTruths() {
        C.about("Term 8", "(a < or = that another instruction than o, d, w takes, or that is left at the end, is ? "
                + "of it, 1, 0)");
        C.is("left at the end", compiled(1, "x y <"), "(? (< x y) 1 0)");
        C.is("left at the end", compiled(1, "x y ="), "(? (= x y) 1 0)");
        C.is("taken by ~", compiled(1, "x y < ~"), "(~ (? (< x y) 1 0))");
        C.is("taken by #", compiled(1, "x y = #"), "(# (? (= x y) 1 0))");
        C.is("taken first", compiled(1, "x y < z +"), "(+ (? (< x y) 1 0) z)");
        C.is("taken second", compiled(1, "x y z < +"), "(+ x (? (< y z) 1 0))");
        C.is("taken by <", compiled(1, "x y < z n = <"), "(? (< (? (< x y) 1 0) (? (= z n) 1 0)) 1 0)");
        C.is("o takes it", compiled(1, "x y < o z"), "z");
        C.is("d takes it", compiled(1, "x y < d o"), "(? (< x y) 1 0)");
        C.is("w takes it", compiled(1, "z x y < w o"), "(? (< x y) 1 0)");
    }

    private static void treeUnsafe() {
        C.about("Term 8", "if w has a SAFE one of two, o takes a SAFE one");
        for (String a : new String[] {"x y /", "x y %", "x #", "x # ~"}) {
            C.is("o takes " + a, compiled(1, a + " o z"), "none");
            C.is("o takes what is above " + a, compiled(1, a + " z o").equals("none"), false);
            C.is("w has " + a + " and z", compiled(1, a + " z w -").equals("none"), false);
            C.is("w has z and " + a, compiled(1, "z " + a + " w -").equals("none"), false);
            C.is("w has " + a + " twice", compiled(1, a + " " + a + " w -"), "none");
            C.is("d may have it", compiled(1, a + " d -").equals("none"), false);
        }
        C.is("w", compiled(1, "x y w -"), "(- y x)");
        C.is("w of an upper one that isn't", compiled(1, "z x y / w -"), "(- (/ x y) z)");
        C.is("w of a lower one that isn't", compiled(1, "x y / z w -"), "(- z (/ x y))");
        C.is("w of two that aren't, one within", compiled(1, "x y z / + x # w -"), "none");
        C.is("w of two that aren't, one within", compiled(1, "x # x y z / + w -"), "none");
        C.is("o of one that isn't, within", compiled(1, "n x y z / + o"), "none");
    }

    /** Code whose tree has 55 nodes, 7 deep. */
    private static final String FIFTY_FIVE = "x d + d + d + d + y d + d + d + + z d + d + +";

    private static void treeTooGreat() {
        C.about("Term 8", "each on the pile has at most 60 nodes, 12 deep at all times");
        C.is("55 nodes", Trees.nodes(compiled(1, FIFTY_FIVE)), 55);
        C.is("60 nodes", Trees.nodes(compiled(1, FIFTY_FIVE + " n d + + ~")), 60);
        C.is("61 nodes", compiled(1, FIFTY_FIVE + " n d + + ~ ~"), "none");
        C.is("61 nodes at a time", compiled(1, "y " + FIFTY_FIVE + " n d + + ~ ~ o"), "none");
        C.is("60 nodes at a time", compiled(1, "y " + FIFTY_FIVE + " n d + + ~ o"), "y");
        C.is("57 nodes and ?, 1, 0", Trees.nodes(compiled(1, FIFTY_FIVE + " x <")), 60);
        C.is("58 nodes and ?, 1, 0", compiled(1, FIFTY_FIVE + " ~ x <"), "none");
        C.about("Term 8", "(So has a TRUTH as it lies there.)");
        C.is("60 nodes as it lies", compiled(1, "y " + FIFTY_FIVE + " ~ ~ ~ x < o"), "y");
        C.is("61 nodes as it lies", compiled(1, "y " + FIFTY_FIVE + " ~ ~ ~ ~ x < o"), "none");
    }

    private static void treeTooDeep() {
        C.about("Term 8", "12 deep at all times");
        C.is("12 deep", compiled(1, "x" + Check.repeat(" ~", 11)), Trees.chain(12));
        C.is("13 deep", compiled(1, "x" + Check.repeat(" ~", 12)), "none");
        C.is("13 deep at a time", compiled(1, "y x" + Check.repeat(" ~", 12) + " o"), "none");
        C.is("12 deep with ?", compiled(1, "x" + Check.repeat(" ~", 9) + " y <").length() > 4, true);
        C.is("13 deep with ?", compiled(1, "x" + Check.repeat(" ~", 10) + " y <"), "none");
        C.is("a truth 12 deep as it lies", compiled(1, "y x" + Check.repeat(" ~", 10) + " y < o"), "y");
        C.is("a truth 13 deep as it lies", compiled(1, "y x" + Check.repeat(" ~", 11) + " y < o"), "none");
        C.is("12 deep in the second part", compiled(1, "y x" + Check.repeat(" ~", 10) + " +").length() > 4, true);
        C.is("13 deep in the second part", compiled(1, "y x" + Check.repeat(" ~", 11) + " +"), "none");
    }

    private static void noSuchTurn() {
        C.about("Promise 57", "IllegalArgumentException: it is neither a TREE nor CODE, or kind isn't the other one.");
        BreedingHouse h = new BreedingHouse();
        String[] texts = {"x", "x", "1:0000", "2:"};
        for (int kind = 0; kind < 4; kind++) {
            Check.read(h, kind, texts[kind]);
        }
        for (int b = 0; b < 4; b++) {
            int birth = b;
            for (int kind : new int[] {-1, 0, 1, 2, 3, 4, LEAST, MOST}) {
                if (b == 0 && kind == 1 || b == 1 && kind == 0) {
                    C.is("can be", h.compile(b, kind) > 3, true);
                } else {
                    C.fails("kind " + b + " to " + kind, Check.ARGUMENT, () -> h.compile(birth, kind));
                }
            }
        }
        for (int none : new int[] {-1, 6, LEAST, MOST}) {
            C.fails("birth " + none, Check.INDEX, () -> h.compile(none, 1));
        }
    }

    private static void leastStates() {
        C.about("Promise 58", "A MACHINE with the least states that is EQUAL to one");
        C.leastIs("5:0000", "5:0000");
        C.leastIs("5:1111;5:1111", "5:0000");
        C.leastIs("5:0000;6:1111", "5:0000");
        C.leastIs("5:1111;5:2222;5:3333;5:4444;5:5555;5:0000", "5:0000");
        C.leastIs("0:1111;0:2222;0:3333;0:4444;0:5555;1:0000", "0:1111;0:2222;0:3333;0:4444;0:5555;1:0000");
        C.leastIs("0:1111;0:2222;0:3333;0:4444;0:5555;0:0001", "0:0000");
        C.leastIs("0:1111;1:2222;0:3333;1:4444;0:5555;1:0000", "0:1111;1:0000");
        for (int c = 0; c < 4; c++) {
            // States 1 and 2 are told apart by one class alone.
            char[] start = "0000".toCharArray();
            start[(c + 1) % 4] = '1';
            start[(c + 2) % 4] = '2';
            char[] first = "0000".toCharArray();
            first[c] = '3';
            BreedingHouse apart = new BreedingHouse();
            int m = Check.machine(apart, "0:" + new String(start) + ";5:" + new String(first) + ";5:0000;9:0000");
            C.is("class " + c + " tells them apart", apart.birth(apart.least(m), 1), 4);
        }
        C.about("Promise 58", "IllegalArgumentException: it is no MACHINE.");
        BreedingHouse h = new BreedingHouse();
        int[] others = {Check.tree(h, "x"), Check.code(h, "x"), Check.net(h, "2:")};
        for (int b : others) {
            C.fails("kind " + h.birth(b, 0), Check.ARGUMENT, () -> h.least(b));
        }
        for (int none : new int[] {-1, 3, LEAST, MOST}) {
            C.fails("birth " + none, Check.INDEX, () -> h.least(none));
        }
        int m = Check.machine(h, "1:0000");
        Check.fill(h, 599);
        C.is("the 600th", h.least(m), 599);
        C.fails("the 601st", Check.STATE, () -> h.least(m));
    }

    private static void leastInOrder() {
        C.about("Promise 58", "its states in the order in which they are come to first (by CLASSES 0 to 3 from state "
                + "0, then from state 1, ..)");
        C.leastIs("0:5432;1:1111;2:2222;3:3333;4:4444;5:5555", "0:1234;5:1111;4:2222;3:3333;2:4444");
        C.leastIs("0:0002;1:1111;2:0001", "0:0001;2:0002;1:2222");
        C.leastIs("0:2111;7:1111;9:1111", "0:1222;9:2222;7:2222");
        C.leastIs("0:0300;1:1111;1:2222;2:4000;3:0120", "0:0100;2:2000;3:0330;1:3333");
    }

    private static int sorted(BreedingHouse h, int net, int row, int upTo) {
        int bits = row;
        for (int c = 0; c < upTo; c++) {
            int i = h.item(net, c, 0);
            int j = h.item(net, c, 1);
            if ((bits >> i & 1) == 1 && (bits >> j & 1) == 0) {
                bits += (1 << j) - (1 << i);
            }
        }
        return bits;
    }

    private static void cleaned() {
        C.about("Promise 59", "A NET without those COMPARATORS that exchange nothing for any ZERO-ONE ROW.");
        String[][] nets = {{"2:", "2:"}, {"2:01", "2:01"}, {"2:01,01", "2:01"}, {"2:01" + Check.repeat(",01", 39),
                "2:01"},
            {"8:01" + Check.repeat(",67", 39), "8:01,67"}, {SORTS8, SORTS8}, {SORTS8 + ",07,34,67", SORTS8},
            {"3:01,12,01,12,02", "3:01,12,01"}};
        BreedingHouse h = new BreedingHouse();
        for (String[] one : nets) {
            C.is("clean of " + one[0], Check.print(h, h.clean(Check.net(h, one[0]))), one[1]);
        }
        for (int seed = 0; seed < 20; seed++) {
            int b = h.populate(0, 3, 1, 3 + seed % 3, seed);
            StringBuilder due = new StringBuilder();
            for (int c = 0; c < h.birth(b, 1); c++) {
                boolean active = false;
                for (int row = 0; row < 1 << h.birth(b, 7); row++) {
                    active = active || sorted(h, b, row, c) != sorted(h, b, row, c + 1);
                }
                due.append(active ? (due.length() == 0 ? "" : ",") + h.item(b, c, 0) + h.item(b, c, 1) : "");
            }
            C.is("by all rows", Check.print(h, h.clean(b)), h.birth(b, 7) + ":" + due);
        }
        int net = Check.net(h, "2:");
        Check.fill(h, 599);
        C.is("the 600th", h.clean(net), 599);
        C.fails("the 601st", Check.STATE, () -> h.clean(net));
    }

    private static void unsorted() {
        C.about("Promise 60", "The least number whose ZERO-ONE ROW a NET doesn't bring into order (0s ahead of 1s); "
                + "-1 if there is none.");
        BreedingHouse h = new BreedingHouse();
        for (int lines = 2; lines <= 8; lines++) {
            C.is("without comparators", h.unsorted(Check.net(h, lines + ":")), 1);
        }
        C.is("two", h.unsorted(Check.net(h, "2:01")), -1);
        C.is("eight", h.unsorted(Check.net(h, SORTS8)), -1);
        for (int seed = 0; seed < 30; seed++) {
            int b = h.populate(0, 3, 1, 2 + seed % 4, seed);
            int lines = h.birth(b, 7);
            int due = -1;
            for (int row = 0; row < 1 << lines && due < 0; row++) {
                int bits = sorted(h, b, row, h.birth(b, 1));
                for (int k = 0; k + 1 < lines; k++) {
                    due = (bits >> k & 1) == 1 && (bits >> k + 1 & 1) == 0 ? row : due;
                }
            }
            C.is("by all rows", h.unsorted(b), due);
        }
        String[] left = SORTS8.split(",");
        int b = Check.net(h, SORTS8.substring(0, SORTS8.length() - 3));
        C.is("19 comparators", left.length, 19);
        int due = -1;
        for (int row = 0; row < 256 && due < 0; row++) {
            int bits = sorted(h, b, row, 18);
            due = bits == 256 - (256 >> Integer.bitCount(bits)) ? -1 : row;
        }
        C.is("without the last one", h.unsorted(b), due);
        C.is("which is some", due > 0, true);
    }

    private static void layers() {
        C.about("Promise 61", "each COMPARATOR is in the layer behind the last one that has one of its lines; 0 "
                + "without any");
        BreedingHouse h = new BreedingHouse();
        String[] nets = {"2:", "8:", "2:01", "4:01,23", "4:01,12", "4:01,12,23", "4:12,01,23", "3:01,12,01",
                "8:01,23,45,67,07",
            "2:01" + Check.repeat(",01", 39), SORTS8, "4:01,01,23,12"};
        int[] due = {0, 0, 1, 1, 2, 3, 2, 3, 2, 40, 6, 3};
        for (int k = 0; k < nets.length; k++) {
            C.is("layers of " + nets[k], h.layers(Check.net(h, nets[k])), due[k]);
        }
    }

    private static void noNet() {
        C.about("Promise 59", "IllegalArgumentException: it is no NET (here and below).");
        BreedingHouse h = new BreedingHouse();
        int[] others = {Check.tree(h, "x"), Check.code(h, "x"), Check.machine(h, "1:0000")};
        for (int b : others) {
            C.fails("clean", Check.ARGUMENT, () -> h.clean(b));
            C.fails("unsorted", Check.ARGUMENT, () -> h.unsorted(b));
            C.fails("layers", Check.ARGUMENT, () -> h.layers(b));
        }
        for (int none : new int[] {-1, 3, LEAST, MOST}) {
            C.fails("clean " + none, Check.INDEX, () -> h.clean(none));
            C.fails("unsorted " + none, Check.INDEX, () -> h.unsorted(none));
            C.fails("layers " + none, Check.INDEX, () -> h.layers(none));
        }
    }
}
