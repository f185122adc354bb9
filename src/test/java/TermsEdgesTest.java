import java.util.List;

/** The edges that the Terms name and that no promise has alone: sorts, steps, the pile, states, lines, draws. */
public final class TermsEdgesTest {
    private static final Check C = new Check();
    private static final int LEAST = Integer.MIN_VALUE;
    private static final int MOST = Integer.MAX_VALUE;

    public static void main(String[] args) {
        calls512();
        numbersOfCases();
        kinds();
        numbersOfNodes();
        constants();
        sortsOfNodes();
        wholeIsANumber();
        steps();
        notAll();
        deepTrees();
        truths();
        sortsOfInstructions();
        pileIsEmptyAtFirst();
        pileHandling();
        distances();
        sameHeight();
        outcomeOfCode();
        states();
        outputs();
        startState();
        netSteps();
        zeroOneRows();
        netTexts();
        better();
        streams();
        wideDraws();
        howsThatAreDrawn();
        regrown();
        typesOfPairs();
        oneBirthAtSeveralPlaces();
        choicesAhead();
        treesOfPrograms();
        orderOfTrees();
        C.end();
    }

    private static void asked(BreedingHouse h, int b, int x, int y, int... due) {
        String name = Check.print(h, b) + " of " + x + ", " + y;
        C.is(name, h.ask(b, x, y, 0), due[0]);
        C.is(name + ": value", h.value(), due[1]);
        C.is(name + ": used", h.used(), due[2]);
    }

    private static void calls512() {
        // "An object is used for at most 512 calls after it has been made": the 512th is still answered.
        BreedingHouse h = new BreedingHouse();
        for (int k = 1; k <= 24; k++) {
            h.add(k, 0, 0, k, 1, false);
        }
        for (int call = 25; call <= 511; call++) {
            h.search(1);
        }
        C.is("the 512th call", h.births(), 487);
    }

    private static void numbersOfCases() {
        C.about("Term 1", "There are at most 24, numbered 0, 1, .. .");
        BreedingHouse h = new BreedingHouse();
        int x = Check.tree(h, "x");
        for (int k = 0; k < 24; k++) {
            C.is("its number", h.add(100 + k, 0, 0, 0, 1, k % 2 == 1), k);
        }
        C.fails("a 25th", Check.STATE, () -> h.add(0, 0, 0, 0, 1, false));
        for (int k = 0; k < 24; k++) {
            h.run(x, k);
            C.is("case " + k, h.value(), 100 + k);
        }
        C.fails("case 24", Check.INDEX, () -> h.run(x, 24));
    }

    private static void kinds() {
        C.about("Term 1", "A PROGRAM has a KIND: 0 TREE, 1 CODE, 2 MACHINE, 3 NET; its SIZE is how many nodes, "
                + "instructions, states, comparators it has.");
        String[] texts = {"(+ x 1)", "x ~", "1:0000;2:0000;3:0000;4:0000", "8:01,23,45,67,07"};
        int[] sizes = {3, 2, 4, 5};
        BreedingHouse h = new BreedingHouse();
        for (int kind = 0; kind < 4; kind++) {
            int b = Check.read(h, kind, texts[kind]);
            C.is("kind", h.birth(b, 0), kind);
            C.is("size", h.birth(b, 1), sizes[kind]);
        }
    }

    private static void numbersOfNodes() {
        C.about("Term 2", "NODES are numbered from 0: the whole, then its first part with all in it, then the "
                + "second, the third.");
        BreedingHouse h = new BreedingHouse();
        int b = Check.tree(h, "(? (< (~ x) 11) (+ 12 (# 13)) (* 14 15))");
        int[] sorts = {20, 15, 7, 1, 0, 10, 0, 8, 0, 12, 0, 0};
        int[] constants = {0, 0, 0, 0, 11, 0, 12, 0, 13, 0, 14, 15};
        for (int i = 0; i < 12; i++) {
            C.is("sort of " + i, h.item(b, i, 0), sorts[i]);
            C.is("constant of " + i, h.item(b, i, 1), constants[i]);
        }
        C.fails("node 12", Check.INDEX, () -> h.item(b, 12, 0));
    }

    private static void constants() {
        C.about("Term 2", "0 CONSTANT -99 .. 99");
        BreedingHouse h = new BreedingHouse();
        for (int v = -99; v <= 99; v++) {
            int b = Check.tree(h, Integer.toString(v));
            C.is("number", h.item(b, 0, 1), v);
            C.is("print", Check.print(h, b), Integer.toString(v));
            h.ask(b, 1, 1, 1);
            C.is("value", h.value(), v);
        }
        C.about("Term 3", "0 PUSH of a NUMBER -99 .. 99");
        for (int v : new int[] {-99, -10, -9, -1, 0, 1, 9, 10, 99}) {
            int b = Check.code(h, Integer.toString(v));
            C.is("number", h.item(b, 0, 1), v);
            C.is("print", Check.print(h, b), Integer.toString(v));
            h.ask(b, 1, 1, 1);
            C.is("value", h.value(), v);
        }
        C.about("Term 2", "TEXT: a CONSTANT as 1 or 2 digits, perhaps with - ahead");
        C.is("100", Check.tree(h, "100"), -1 - 2);
        C.is("-100", Check.tree(h, "-100"), -1 - 3);
        C.is("no digit", Check.tree(h, "-"), -1 - 1);
        C.is("+1", Check.tree(h, "+1"), -1);
    }

    private static void sortsOfNodes() {
        C.about("Term 2", "Each is a NUMBER or a TRUTH and has a SORT");
        BreedingHouse h = new BreedingHouse();
        String[] numbers = {"0", "x", "y", "z", "n", "", "", "(~ x)", "(# x)", "", "(+ x x)", "(- x x)", "(* x x)",
                "(/ x x)", "(% x x)", "", "", "", "",
            "(@ x x)", "(? (< x x) x x)"};
        for (int sort = 0; sort < 21; sort++) {
            if (!numbers[sort].isEmpty()) {
                C.is(numbers[sort], h.item(Check.tree(h, numbers[sort]), 0, 0), sort);
            }
        }
        String[] truths = {"(! (< x x))", "(< x x)", "(= x x)", "(& (< x x) (< x x))", "(| (< x x) (< x x))"};
        int[] sorts = {9, 15, 16, 17, 18};
        for (int k = 0; k < 5; k++) {
            C.is(truths[k], h.item(Check.tree(h, "(? " + truths[k] + " x x)"), 1, 0), sorts[k]);
        }
        C.is("s", h.item(Check.tree(h, "(@ x s)"), 2, 0), 5);
        C.is("e", h.item(Check.tree(h, "(@ x e)"), 2, 0), 6);
    }

    private static void wholeIsANumber() {
        C.about("Term 2", "the whole is a NUMBER");
        BreedingHouse h = new BreedingHouse();
        for (String truth : new String[] {"(< x y)", "(= x y)", "(! (< x y))", "(& (< x y) (< x y))",
                "(| (< x y) (< x y))"}) {
            C.is(truth, Check.tree(h, truth), -1 - 1);
        }
    }

    private static void steps() {
        C.about("Term 2", "A NODE is a STEP when its turn comes, ahead of its parts; these are worked from left to "
                + "right, then itself");
        BreedingHouse h = new BreedingHouse();
        asked(h, Check.tree(h, "x"), 5, 0, 0, 5, 1);
        asked(h, Check.tree(h, "(# (# (# 0)))"), 5, 0, 2, 0, 4);
        asked(h, Check.tree(h, "(/ (# 0) 0)"), 5, 0, 2, 0, 3);
        asked(h, Check.tree(h, "(/ 1 (# 0))"), 5, 0, 2, 0, 4);
        asked(h, Check.tree(h, "(+ (/ 1 0) (# 0))"), 5, 0, 1, 0, 4);
        asked(h, Check.tree(h, "(? (< (/ 1 0) x) (# 0) (# 0))"), 5, 0, 1, 0, 5);
        h.set(0, 10);
        asked(h, Check.tree(h, "(/ " + Trees.sum(5, "x") + " 0)"), 5, 0, 3, 0, 10);
        asked(h, Check.tree(h, "(/ (~ " + Trees.sum(4, "x") + ") 0)"), 5, 0, 1, 0, 10);
    }

    private static void notAll() {
        C.about("Term 2", "but of & the second part only if the first is true, of | only if it is false, of ? the "
                + "second part if the first is true, else the third");
        BreedingHouse h = new BreedingHouse();
        String fault = "(= (/ 1 0) 1)";
        int and = Check.tree(h, "(? (& (< x 1) " + fault + ") 7 8)");
        asked(h, and, 1, 0, 0, 8, 6);
        asked(h, and, 0, 0, 1, 0, 9);
        int or = Check.tree(h, "(? (| (< x 1) " + fault + ") 7 8)");
        asked(h, or, 0, 0, 0, 7, 6);
        asked(h, or, 1, 0, 1, 0, 9);
        int second = Check.tree(h, "(? (< x 1) (/ 1 0) 8)");
        asked(h, second, 1, 0, 0, 8, 5);
        asked(h, second, 0, 0, 1, 0, 7);
        int third = Check.tree(h, "(? (< x 1) 7 (/ 1 0))");
        asked(h, third, 0, 0, 0, 7, 5);
        asked(h, third, 1, 0, 1, 0, 7);
    }

    private static void deepTrees() {
        C.about("Term 2", "each at most 12 deep (the whole is 1 deep)");
        BreedingHouse h = new BreedingHouse();
        asked(h, Check.tree(h, Trees.chain(12)), 7, 0, 0, -7, 12);
        asked(h, Check.tree(h, Check.repeat("(+ 1 ", 11) + "x" + Check.repeat(")", 11)), 7, 0, 0, 18, 23);
        asked(h, Check.tree(h, Check.repeat("(+ ", 11) + "x" + Check.repeat(" 2)", 11)), 7, 0, 0, 29, 23);
        asked(h, Check.tree(h, Check.repeat("(? (= 1 2) 3 ", 10) + "(~ x)" + Check.repeat(")", 10)), 7, 0, 0, -7, 42);
        asked(h, Check.tree(h, Check.repeat("(? (= 1 1) ", 10) + "(~ x)" + Check.repeat(" 3)", 10)), 7, 0, 0, -7, 42);
        asked(h, Check.tree(h, "(? " + Check.repeat("(! ", 9) + "(= 1 1)" + Check.repeat(")", 9) + " 3 x)"), 7, 0, 0, 7,
                14);
        asked(h, Check.tree(h, "(? " + Check.repeat("(& (= 1 1) ", 9) + "(= 1 1)" + Check.repeat(")", 9) + " x 3)"), 7,
                0, 0, 7, 41);
        asked(h, Check.tree(h, "(? " + Check.repeat("(| (= 1 2) ", 9) + "(= 1 1)" + Check.repeat(")", 9) + " x 3)"), 7,
                0, 0, 7, 41);
        Check.put(h, 5);
        asked(h, Check.tree(h, Check.repeat("(@ ", 10) + "(~ x)" + Check.repeat(" (+ s e))", 10)), 7, 0, 0, 43, 42);
        asked(h, Check.tree(h, "(@ 5 " + Check.repeat("(- 1 ", 10) + "e" + Check.repeat(")", 10) + ")"), 7, 0, 0, 5,
                23);
        for (int b = 0; b < h.births(); b++) {
            C.is("12 deep", h.birth(b, 8), 12);
        }
    }

    private static void truths() {
        C.about("Term 2", "15 < (below), 16 = : TRUTHS of two NUMBERS; 17 & (and), 18 | (or): TRUTHS of two");
        BreedingHouse h = new BreedingHouse();
        int below = Check.tree(h, "(? (< x y) 1 0)");
        int same = Check.tree(h, "(? (= x y) 1 0)");
        int not = Check.tree(h, "(? (! (< x y)) 1 0)");
        int[][] pairs = {{0, 0}, {0, 1}, {1, 0}, {LEAST, MOST}, {MOST, LEAST}, {MOST, MOST}, {LEAST, LEAST}, {-1, 0},
                {MOST - 1, MOST}};
        for (int[] p : pairs) {
            h.ask(below, p[0], p[1], 0);
            C.is("below", h.value(), p[0] < p[1] ? 1 : 0);
            h.ask(same, p[0], p[1], 0);
            C.is("same", h.value(), p[0] == p[1] ? 1 : 0);
            h.ask(not, p[0], p[1], 0);
            C.is("not below", h.value(), p[0] < p[1] ? 0 : 1);
        }
        int and = Check.tree(h, "(? (& (= x 1) (= y 1)) 1 0)");
        int or = Check.tree(h, "(? (| (= x 1) (= y 1)) 1 0)");
        for (int k = 0; k < 4; k++) {
            h.ask(and, k / 2, k % 2, 0);
            C.is("and", h.value(), k == 3 ? 1 : 0);
            h.ask(or, k / 2, k % 2, 0);
            C.is("or", h.value(), k == 0 ? 0 : 1);
        }
    }

    private static void sortsOfInstructions() {
        C.about("Term 3", "with SORTS: 0 PUSH");
        BreedingHouse h = new BreedingHouse();
        String[] codes = {"5", "x", "y", "z", "n", "x ~", "x #", "x x +", "x x -", "x x *", "x x /", "x x %", "x x <",
                "x x =", "x d +",
            "x y w +", "x y o", "x j0", "x y b0"};
        int[] at = {0, 0, 0, 0, 0, 1, 1, 2, 2, 2, 2, 2, 2, 2, 1, 2, 2, 1, 2};
        for (int sort = 0; sort < 19; sort++) {
            C.is(codes[sort], h.item(Check.code(h, codes[sort]), at[sort], 0), sort);
        }
    }

    private static void pileIsEmptyAtFirst() {
        C.about("Term 3", "which put that on a pile (empty at first)");
        BreedingHouse h = new BreedingHouse();
        int full = Check.code(h, "1 2 3 4 5 6 7 x / + + + + + +");
        int one = Check.code(h, "x");
        asked(h, full, 0, 0, 1, 0, 9);
        asked(h, one, 4, 0, 0, 4, 1);
        asked(h, full, 1, 0, 0, 28, 15);
        asked(h, full, 1, 0, 0, 28, 15);
        asked(h, one, -4, 0, 0, -4, 1);
    }

    private static void pileHandling() {
        C.about("Term 3", "14 d puts the top once more; 15 w exchanges the upper two; 16 o takes one");
        BreedingHouse h = new BreedingHouse();
        asked(h, Check.code(h, "x d -"), 9, 4, 0, 0, 3);
        asked(h, Check.code(h, "x y d + -"), 9, 4, 0, 1, 5);
        asked(h, Check.code(h, "x y w -"), 9, 4, 0, -5, 4);
        asked(h, Check.code(h, "1 x y w - -"), 9, 4, 0, 6, 6);
        asked(h, Check.code(h, "x y o"), 9, 4, 0, 9, 3);
        asked(h, Check.code(h, "x y w o"), 9, 4, 0, 4, 4);
        String eight = "1 2 3 4 5 6 x y";
        asked(h, Check.code(h, eight + " w - + + + + + +"), 9, 4, 0, 21 - 5, 16);
        asked(h, Check.code(h, "1 2 3 4 5 6 x d - + + + + + +"), 9, 4, 0, 21, 15);
    }

    private static void distances() {
        C.about("Term 3", "17 j with a distance 0 .. 59: so many that follow are passed over");
        BreedingHouse h = new BreedingHouse();
        asked(h, Check.code(h, "x j0 ~"), 5, 0, 0, -5, 3);
        int j = Check.code(h, "x y b1 j56" + Check.repeat(" ~", 55) + " ~");
        C.is("60 instructions", h.birth(j, 1), 60);
        asked(h, j, 5, 1, 0, 5, 4);
        asked(h, j, 5, 0, 0, 5, 3 + 56);
        int less = Check.code(h, "x y b1 j55" + Check.repeat(" ~", 55) + " ~");
        asked(h, less, 5, 1, 0, -5, 5);
        int one = Check.code(h, "x y b2 ~ j1 ~ ~");
        asked(h, one, 5, 1, 0, 5, 6);
    }

    private static void sameHeight() {
        C.about("Term 3", "each instruction is reached by some way, each with the same height of the pile by all "
                + "ways that lead there");
        BreedingHouse h = new BreedingHouse();
        C.is("both ways leave 1", Check.code(h, "x b2 1 j1 2"), 0);
        C.is("both ways leave 2", Check.code(h, "x y b2 1 j1 2 +"), 1);
        C.is("1 or 2", Check.code(h, "x y b1 1 +"), -1 - 7);
        C.is("not reached", Check.code(h, "x j1 ~ ~"), -1 - 5);
        C.about("Term 3", "takes too much, leaves too much, leads behind the end");
        C.is("takes too much", Check.code(h, "x + + +"), -1 - 2);
        C.is("leaves too much", Check.code(h, "x x x x x x x x x x x"), -1 - 16);
        C.is("leads behind the end", Check.code(h, "x j7 + +"), -1 - 2);
        C.is("b leads behind the end", Check.code(h, "x x b9 + +"), -1 - 4);
    }

    private static void outcomeOfCode() {
        C.about("Term 3", "Behind the last the OUTCOME is what lies on the pile.");
        BreedingHouse h = new BreedingHouse();
        asked(h, Check.code(h, "x y o"), MOST, 4, 0, MOST, 3);
        asked(h, Check.code(h, "j0 x j0"), LEAST, 4, 0, LEAST, 3);
        asked(h, Check.code(h, "x y b0"), 7, 0, 0, 7, 3);
    }

    private static void states() {
        C.about("Term 4", "MACHINES: 1 to 6 STATES 0, 1, ..");
        BreedingHouse h = new BreedingHouse();
        for (int many = 1; many <= 6; many++) {
            String text = "1:0000" + Check.repeat(";1:0000", many - 1);
            C.is("states", h.birth(Check.machine(h, text), 1), many);
            C.is("the last state can be led to", Check.machine(h, text.substring(0, text.length() - 1)
                    + (many - 1)) >= 0, true);
            C.is("the next one can't", Check.machine(h, text.substring(0, text.length() - 1) + many),
                    -1 - (text.length() - 1));
        }
        C.is("none", Check.machine(h, ""), -1);
        C.is("seven", Check.machine(h, "1:0000" + Check.repeat(";1:0000", 6)), -1 - 42);
    }

    private static void outputs() {
        C.about("Term 4", "each with an OUTPUT -99 .. 99 and four EDGES to states, for CLASSES 0 .. 3");
        BreedingHouse h = new BreedingHouse();
        for (int v : new int[] {-99, -1, 0, 1, 99}) {
            int m = Check.machine(h, v + ":0000");
            C.is("output", h.item(m, 0, 0), v);
            asked(h, m, 3, 4, 0, v, 1);
        }
        C.is("100", Check.machine(h, "100:0000"), -1 - 2);
        C.is("-100", Check.machine(h, "-100:0000"), -1 - 3);
        C.is("three edges", Check.machine(h, "1:000"), -1 - 5);
        C.is("five edges", Check.machine(h, "1:00000"), -1 - 6);
    }

    private static void startState() {
        C.about("Term 4", "It begins in state 0 (one STEP)");
        BreedingHouse h = new BreedingHouse();
        int ring = Check.machine(h, "10:1111;11:2222;12:3333;13:4444;14:5555;15:0000");
        for (int length = 0; length <= 8; length++) {
            asked(h, ring, 1, 1, 0, 10 + length % 6, 1 + length);
            h.put(length);
        }
    }

    private static void netSteps() {
        C.about("Term 4", "one STEP; then each COMPARATOR in its turn, one STEP each");
        BreedingHouse h = new BreedingHouse();
        asked(h, Check.net(h, "8:"), 1, 1, 0, 0, 1);
        asked(h, Check.net(h, "8:07"), 1, 1, 0, 0, 2);
        asked(h, Check.net(h, "2:01" + Check.repeat(",01", 39)), 1, 1, 0, 0, 41);
        Check.put(h, 3, 2, 1);
        asked(h, Check.net(h, "3:01,12"), 1, 1, 0, 1, 3);
        asked(h, Check.net(h, "3:12,01"), 1, 1, 0, 3, 3);
    }

    private static void zeroOneRows() {
        C.about("Term 4", "A ZERO-ONE ROW is given by a number: its bit k is what line k has.");
        BreedingHouse h = new BreedingHouse();
        C.is("lines 0 and 1 have ones", h.unsorted(Check.net(h, "3:01,12")), 3);
        C.is("line 0 has one", h.unsorted(Check.net(h, "3:12")), 1);
        C.is("line 1 has one", h.unsorted(Check.net(h, "3:01,02")), 1);
        // 1, 1, 1, 0 becomes 1, 0, 1, 1.
        C.is("lines 0 to 2 have ones", h.unsorted(Check.net(h, "4:01,12,23,01,12")), 7);
    }

    private static void netTexts() {
        C.about("Term 4", "TEXT: the digit LINES, :, then COMPARATORS, perhaps none, with , between");
        BreedingHouse h = new BreedingHouse();
        C.is("none", h.birth(Check.net(h, "5:"), 1), 0);
        C.is("one", h.birth(Check.net(h, "5:04"), 1), 1);
        C.is("two", h.birth(Check.net(h, "5:04,34"), 1), 2);
        C.is("a comma at the end", Check.net(h, "5:04,"), -1 - 5);
        C.is("a comma at first", Check.net(h, "5:,04"), -1 - 2);
        C.is("no comma", Check.net(h, "5:0434"), -1 - 4);
    }

    private static void better() {
        C.about("Term 5", "BETTER is a program with a lesser SCORE over SEEN ones; of two alike that of lesser SIZE; "
                + "then the lesser BIRTH.");
        BreedingHouse h = new BreedingHouse();
        int far = Check.tree(h, "3");
        int near = Check.tree(h, "(+ 1 1)");
        int nearToo = Check.tree(h, "(+ 1 1)");
        int small = Check.tree(h, "2");
        h.add(0, 0, 0, 1, 9, false);
        h.add(0, 0, 0, 3, 9, true);
        C.is("lesser score, though greater and later", h.compare(near, far), -1);
        C.is("lesser size, though later", h.compare(small, near), -1);
        C.is("lesser birth", h.compare(near, nearToo), -1);
        C.is("the other way round", h.compare(nearToo, near), 1);
        C.is("one", h.compare(near, near), 0);
    }

    private static void streams() {
        C.about("Term 5", "for each DRAW s becomes s * 6364136223846793005 + 1442695040888963407 (a long that "
                + "wraps), and the DRAW of n is (s >>> 33) modulo n");
        BreedingHouse h = new BreedingHouse();
        int t = Check.tree(h, Trees.sum(8, "5"));
        int many = h.edits(t, 0);
        C.is("edits", many, 40);
        for (long seed : new long[] {0, 1, -1, Long.MIN_VALUE, Long.MAX_VALUE, 1L << 31, -(1L << 33),
                4611686018427387904L}) {
            long s = seed * 6364136223846793005L + 1442695040888963407L;
            C.is("seed " + seed, h.birth(h.change(t, 0, seed), 6), (s >>> 33) % many);
        }
    }

    private static void wideDraws() {
        C.about("Term 5", "a WIDE DRAW of n is 2147483648 a + b modulo n, a and b being the next two (s >>> 33).");
        BreedingHouse h = new BreedingHouse();
        for (long seed : new long[] {0, 1, -1, Long.MIN_VALUE, Long.MAX_VALUE, 99}) {
            long s = seed * 6364136223846793005L + 1442695040888963407L;
            long a = s >>> 33;
            s = s * 6364136223846793005L + 1442695040888963407L;
            long b = s >>> 33;
            C.is("seed " + seed, h.place(h.populate(0, 0, 1, 9, seed)), (2147483648L * a + b) % 16149517216L);
            C.is("a small n", h.place(h.populate(0, 0, 1, 1, seed)), (2147483648L * a + b) % 14);
        }
    }

    private static void howsThatAreDrawn() {
        C.about("Term 7", "otherwise one CHOICE, a HOW, a DRAW of 5 (of 4 for others than TREES), a seed likewise, "
                + "and change() with these");
        for (int kind = 0; kind < 4; kind++) {
            BreedingHouse h = new BreedingHouse();
            h.populate(0, kind, 16, 4, kind);
            h.set(3, 0);
            h.breed(0, 20);
            int[] hows = new int[5];
            for (int b = 16; b < h.births(); b++) {
                hows[h.birth(b, 5)]++;
                C.is("the seed is a wide draw", h.seed(b) >= 0 && h.seed(b) < 1L << 62, true);
            }
            for (int how = 0; how < 5; how++) {
                C.is("kind " + kind + " how " + how, hows[how] > 20, kind == 0 || how < 4);
            }
        }
    }

    private static void regrown() {
        C.about("Term 6", "a DRAW of as many nodes as there are; a SIZE, 1 and a DRAW of 4");
        BreedingHouse h = new BreedingHouse();
        int b = Check.tree(h, "(- x y)");
        boolean[] seen = new boolean[12];
        for (int k = 0; k < 80; k++) {
            long seed = k * 0x9E3779B97F4A7C15L;
            Draws draws = new Draws(seed);
            int node = draws.draw(3);
            int size = 1 + draws.draw(4);
            String part = Check.print(h, h.tree(size, draws.wide(h.trees(size))));
            String due = node == 0 ? part : node == 1 ? "(- " + part + " y)" : "(- x " + part + ")";
            C.is("seed " + seed, Check.print(h, h.change(b, 4, seed)), due);
            seen[4 * node + size - 1] = true;
        }
        for (int k = 0; k < 12; k++) {
            C.is("node " + k / 4 + " size " + (1 + k % 4) + " was tried", seen[k], true);
        }
    }

    private static void typesOfPairs() {
        C.about("Term 6", "TREES: a node of the first, a node of the second, which comes for it, both of one type.");
        BreedingHouse h = new BreedingHouse();
        int t = Check.tree(h, "(? (< x y) 1 2)");
        C.is("numbers with numbers, a truth with a truth", h.pairs(t, t), 5 * 5 + 1);
        C.is("no truth", h.pairs(t, Check.tree(h, "z")), 5);
        C.is("no truth", h.pairs(Check.tree(h, "z"), t), 5);
        C.about("Term 6", "Those alone that are SOUND.");
        int fold = Check.tree(h, "(@ x (~ s))");
        C.is("into itself", h.pairs(fold, fold), 2 + 2 + 3 + 3);
        int deep = Check.tree(h, Trees.chain(12));
        C.is("12 deep at most", h.pairs(deep, deep), 78);
    }

    private static void oneBirthAtSeveralPlaces() {
        C.about("Term 7", "ISLANDS 0 .. 3 have 0 to 16 MEMBERS, BIRTHS, at PLACES 0, 1, .. (one BIRTH may be at "
                + "several), and a STREAM.");
        BreedingHouse h = new BreedingHouse();
        h.populate(0, 0, 1, 1, 3);
        h.populate(3, 0, 16, 2, 3);
        for (int k = 0; k < 16; k++) {
            C.is("moved", h.move(0, 3), true);
        }
        for (int place = 0; place < 16; place++) {
            C.is("place " + place, h.member(3, place), 0);
        }
        C.is("still 16", h.members(3), 16);
        h.breed(3, 1);
        C.is("the best", h.member(3, 0), 0);
        for (int place = 1; place < 16; place++) {
            C.is("a child of it", h.birth(h.member(3, place), 3), 0);
        }
    }

    private static void choicesAhead() {
        C.about("Term 7", "(CHOICES go by the MEMBERS and PLACES as they are ahead of it)");
        BreedingHouse h = new BreedingHouse();
        h.populate(0, 0, 16, 3, 3);
        for (int choice = 0; choice <= 2; choice++) {
            h.set(4, choice);
            List<Integer> before = ByHand.members(h, 0);
            int from = h.births();
            h.breed(0, 1);
            for (int b = from; b < h.births(); b++) {
                C.is("its parent was a member", before.contains(h.birth(b, 3)), true);
                C.is("its second parent, too", h.birth(b, 4) < 0 || before.contains(h.birth(b, 4)), true);
            }
        }
    }

    private static void treesOfPrograms() {
        C.about("Term 8", "A program's TREE: of a TREE itself");
        BreedingHouse h = new BreedingHouse();
        int full = Check.tree(h, Trees.ofSize(60));
        C.is("the greatest", h.equal(full, Check.tree(h, Trees.ofSize(60))), 1);
        C.about("Term 8", "others have none");
        int m = Check.machine(h, "1:0000");
        int n = Check.net(h, "2:");
        C.is("a machine and a net", h.equal(m, n), 0);
        C.is("a net and code", h.equal(n, Check.code(h, "0")), 0);
        C.is("a machine and code", h.equal(m, Check.code(h, "1")), 2);
        C.is("code with a jump", h.compile(Check.code(h, "x j0"), 0), -1);
    }

    private static void orderOfTrees() {
        C.about("Term 2", "by SIZE; then by the SORT of node 0, of CONSTANTS by them; then by the first part's SIZE, "
                + "then by the second part's; then by the first part, the second, the third, in this ORDER");
        String[] rising = {"(~ (~ (~ 0)))", "(~ (~ (# n)))", "(~ (+ 0 0))", "(# (~ (~ 0)))", "(+ 0 (~ 0))",
                "(+ 0 (# n))", "(+ 1 (~ 0))", "(+ n (# n))",
            "(+ (~ 0) 0)", "(+ (~ 0) 1)", "(+ (# n) n)", "(- 0 (~ 0))", "(@ 0 (~ 0))", "(@ 0 (~ e))", "(@ (~ 0) 0)",
            "(@ (# n) e)"};
        placesRise(rising);
        String[] six = {"(? (< 0 0) 0 0)", "(? (< 0 0) 0 1)", "(? (< 0 0) n n)", "(? (< 0 1) 0 0)", "(? (< n n) n n)",
                "(? (= 0 0) 0 0)", "(? (= n n) n n)"};
        placesRise(six);
        String[] seven = {"(? (< 0 0) 0 (~ 0))", "(? (= n n) n (# n))", "(? (< 0 0) (~ 0) 0)", "(? (= n n) (# n) n)",
                "(? (! (< 0 0)) 0 0)", "(? (< 0 (~ 0)) 0 0)",
            "(? (< (~ 0) 0) 0 0)", "(? (= 0 (~ 0)) 0 0)", "(? (= (# n) n) n n)"};
        placesRise(seven);
        BreedingHouse h = new BreedingHouse();
        C.is("the last of 7", h.place(Check.tree(h, "(? (= (# n) n) n n)")), h.trees(7) - 1);
        C.is("the last of 6", h.place(Check.tree(h, "(? (= n n) n n)")), h.trees(6) - 1);
    }

    private static void placesRise(String[] texts) {
        BreedingHouse h = new BreedingHouse();
        long before = -1;
        for (String text : texts) {
            int b = Check.tree(h, text);
            long place = h.place(b);
            C.is(text + " is behind the one ahead", place > before, true);
            C.is("and has that place", h.same(b, h.tree(h.birth(b, 1), place)), true);
            before = place;
        }
    }
}
