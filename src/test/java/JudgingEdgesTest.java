/** The edges of promises 14 to 28, and of Terms 1 and 5: cases, runs, errors, scores, settings. */
public final class JudgingEdgesTest {
    private static final Check C = new Check();
    private static final int LEAST = Integer.MIN_VALUE;
    private static final int MOST = Integer.MAX_VALUE;

    public static void main(String[] args) {
        rows();
        rowTooLong();
        casesWithRows();
        weights();
        atMost24();
        dropped();
        toldOfCases();
        anotherTold();
        numbersWrap();
        leastQuotient();
        quotientsByZero();
        placesOfTheRow();
        limitAtFirst();
        stepTooMany();
        foldsOfRows();
        pileTruths();
        classes();
        linesWithoutNumbers();
        middleLines();
        runs();
        asks();
        values();
        usedSteps();
        errors();
        scoresInLowestTerms();
        scoresOfWhatIsLeft();
        scoresWithoutCases();
        otherParts();
        overfits();
        hits();
        better();
        settings();
        noSuchSetting();
        limitNow();
        C.end();
    }

    private static void asked(BreedingHouse h, int b, int x, int y, int z, int... due) {
        String name = Check.print(h, b) + " of " + x + ", " + y + ", " + z;
        C.is(name, h.ask(b, x, y, z), due[0]);
        C.is(name + ": value", h.value(), due[1]);
        if (due.length > 2) {
            C.is(name + ": used", h.used(), due[2]);
        }
    }

    private static void tree(BreedingHouse h, String text, int x, int y, int... due) {
        asked(h, Check.tree(h, text), x, y, 0, due);
    }

    private static void code(BreedingHouse h, String text, int x, int y, int... due) {
        asked(h, Check.code(h, text), x, y, 0, due);
    }

    private static void rows() {
        C.about("Term 1", "A CASE has NUMBERS x, y, z, a ROW of 0 to 8 NUMBERS, a WANT (a NUMBER) and a WEIGHT 1 to "
                + "9, and is SEEN or HIDDEN.");
        BreedingHouse h = new BreedingHouse();
        for (int length = 0; length <= 8; length++) {
            for (int k = 0; k < length; k++) {
                h.put(k % 2 == 0 ? LEAST + k : MOST - k);
            }
            int c = h.add(LEAST, MOST, 0, length % 2 == 0 ? LEAST : MOST, 1 + length, length % 2 == 1);
            C.is("x", h.told(c, 0), LEAST);
            C.is("y", h.told(c, 1), MOST);
            C.is("z", h.told(c, 2), 0);
            C.is("want", h.told(c, 3), length % 2 == 0 ? LEAST : MOST);
            C.is("weight", h.told(c, 4), 1 + length);
            C.is("hidden", h.told(c, 5), length % 2);
            C.is("length", h.told(c, 6), length);
            for (int k = 0; k < 8; k++) {
                C.is("number " + k, h.told(c, 7 + k), k >= length ? 0 : k % 2 == 0 ? LEAST + k : MOST - k);
            }
        }
    }

    private static void rowTooLong() {
        C.about("Promise 14", "A number comes behind the ROW that is collected: how many it has; -1, and none comes, "
                + "if it has 8.");
        BreedingHouse h = new BreedingHouse();
        for (int k = 1; k <= 8; k++) {
            C.is("put", h.put(10 * k), k);
        }
        C.is("a ninth", h.put(90), -1);
        C.is("and again", h.put(91), -1);
        int c = h.add(0, 0, 0, 0, 1, false);
        C.is("it has 8", h.told(c, 6), 8);
        C.is("the eighth is as it was", h.told(c, 14), 80);
        C.is("the first is as it was", h.told(c, 7), 10);
    }

    private static void casesWithRows() {
        C.about("Promise 15", "A CASE with the ROW that is collected, which is empty then: its number.");
        BreedingHouse h = new BreedingHouse();
        Check.put(h, 5, 6);
        C.is("the first", h.add(1, 2, 3, 4, 5, false), 0);
        C.is("the second", h.add(1, 2, 3, 4, 5, false), 1);
        C.is("two", h.told(0, 6), 2);
        C.is("none", h.told(1, 6), 0);
        C.is("none of the old ones", h.told(1, 7), 0);
        C.is("it is empty", h.put(1), 1);
    }

    private static void weights() {
        C.about("Promise 15", "IllegalArgumentException: weight isn't 1 .. 9.");
        BreedingHouse h = new BreedingHouse();
        h.put(7);
        for (int weight : new int[] {0, 10, -1, LEAST, MOST}) {
            C.fails("weight " + weight, Check.ARGUMENT, () -> h.add(0, 0, 0, 0, weight, false));
        }
        C.is("no case", h.cases(), 0);
        C.is("weight 1", h.add(0, 0, 0, 0, 1, false), 0);
        C.is("weight 9", h.add(0, 0, 0, 0, 9, false), 1);
        C.is("the row stayed", h.told(0, 6), 1);
    }

    private static void atMost24() {
        C.about("Promise 15", "IllegalStateException: there are 24.");
        BreedingHouse h = new BreedingHouse();
        for (int k = 0; k < 24; k++) {
            C.is("case", h.add(k, 0, 0, 0, 1, k % 3 == 0), k);
            C.is("cases()", h.cases(), k + 1);
        }
        h.put(5);
        C.fails("a 25th", Check.STATE, () -> h.add(0, 0, 0, 0, 1, false));
        C.fails("a hidden one, too", Check.STATE, () -> h.add(0, 0, 0, 0, 1, true));
        C.is("24 are there", h.cases(), 24);
        C.is("the last is as it was", h.told(23, 0), 23);
        C.is("the row stays", h.put(6), 2);
        C.fails("case 24", Check.INDEX, () -> h.told(24, 0));
        h.drop(0);
        C.is("there is room again", h.add(99, 0, 0, 0, 1, false), 23);
        C.is("with the row", h.told(23, 8), 6);
    }

    private static void dropped() {
        C.about("Promise 16", "A CASE goes; the others behind have lesser numbers by 1: how many are left.");
        BreedingHouse h = new BreedingHouse();
        for (int k = 0; k < 24; k++) {
            Check.put(h, k, -k);
            h.add(k, k + 1, k + 2, k + 3, 1 + k % 9, k % 2 == 0);
        }
        C.is("the first goes", h.drop(0), 23);
        C.is("1 is the first", h.told(0, 0), 1);
        C.is("the last goes", h.drop(22), 22);
        C.is("22 is the last", h.told(21, 0), 22);
        C.is("one in the middle goes", h.drop(10), 21);
        C.is("the one ahead of it stays", h.told(9, 0), 10);
        int[] due = {12, 13, 14, 15, 4, 1, 2, 12, -12};
        for (int what = 0; what < 9; what++) {
            C.is("the next one comes for it", h.told(10, what), due[what]);
        }
        C.about("Promise 16", "int drop(int k) throws IndexOutOfBoundsException");
        for (int k : new int[] {-1, 21, LEAST, MOST}) {
            C.fails("case " + k, Check.INDEX, () -> h.drop(k));
        }
        for (int left = 20; left >= 0; left--) {
            C.is("left", h.drop(0), left);
        }
        C.fails("none is left", Check.INDEX, () -> h.drop(0));
        C.about("Promise 17", "How many CASES there are.");
        C.is("none", h.cases(), 0);
        h.add(0, 0, 0, 0, 1, true);
        C.is("one, though hidden", h.cases(), 1);
    }

    private static void toldOfCases() {
        C.about("Promise 18", "6 how many its ROW has, 7 .. 14 these (0 behind the last).");
        BreedingHouse h = new BreedingHouse();
        Check.put(h, 1, 2, 3, 4, 5, 6, 7, 8);
        h.add(0, 0, 0, 0, 1, false);
        Check.put(h, 9);
        h.add(0, 0, 0, 0, 1, true);
        for (int k = 0; k < 8; k++) {
            C.is("of eight", h.told(0, 7 + k), k + 1);
            C.is("of one", h.told(1, 7 + k), k == 0 ? 9 : 0);
        }
        C.is("seen", h.told(0, 5), 0);
        C.is("hidden", h.told(1, 5), 1);
        h.drop(0);
        C.is("behind the last, of one that moved", h.told(0, 8), 0);
    }

    private static void anotherTold() {
        C.about("Promise 18", "IllegalArgumentException: another what.");
        BreedingHouse h = new BreedingHouse();
        h.add(0, 0, 0, 0, 1, false);
        h.add(77, 0, 0, 0, 1, false);
        for (int what : new int[] {-1, 15, LEAST, MOST}) {
            C.fails("what " + what, Check.ARGUMENT, () -> h.told(0, what));
        }
        C.is("14 is the last", h.told(0, 14), 0);
        for (int k : new int[] {-1, 2, LEAST, MOST}) {
            C.fails("case " + k, Check.INDEX, () -> h.told(k, 0));
        }
    }

    private static void numbersWrap() {
        C.about("Term 1", "NUMBERS are ints that wrap.");
        BreedingHouse h = new BreedingHouse();
        String[] trees = {"(+ x y)", "(- x y)", "(* x y)"};
        String[] codes = {"x y +", "x y -", "x y *"};
        int[][] due = {{MOST, 1, LEAST}, {LEAST, 1, MOST}, {MOST, 2, -2}, {LEAST, -1, MOST}, {MOST, -1, LEAST}, {LEAST,
                -1, LEAST}};
        for (int k = 0; k < 6; k++) {
            tree(h, trees[k % 3], due[k][0], due[k][1], 0, due[k][2]);
            code(h, codes[k % 3], due[k][0], due[k][1], 0, due[k][2]);
        }
        tree(h, "(~ x)", LEAST, 0, 0, LEAST);
        code(h, "x ~", LEAST, 0, 0, LEAST);
        tree(h, "(~ x)", MOST, 0, 0, -MOST);
        tree(h, "(* x x)", 65536, 0, 0, 0);
        tree(h, "(? (< x y) 1 2)", LEAST, MOST, 0, 1);
        tree(h, "(? (< x y) 1 2)", MOST, LEAST, 0, 2);
        code(h, "x y <", LEAST, MOST, 0, 1);
        Check.put(h, MOST, 1);
        tree(h, "(@ 0 (+ s e))", 0, 0, 0, LEAST);
        asked(h, Check.net(h, "2:01"), 0, 0, 0, 0, 1);
    }

    private static void leastQuotient() {
        C.about("Term 2", "The least NUMBER / -1 is itself, % -1 is 0.");
        BreedingHouse h = new BreedingHouse();
        tree(h, "(/ x y)", LEAST, -1, 0, LEAST);
        tree(h, "(% x y)", LEAST, -1, 0, 0);
        code(h, "x y /", LEAST, -1, 0, LEAST);
        code(h, "x y %", LEAST, -1, 0, 0);
        tree(h, "(/ x y)", MOST, -1, 0, -MOST);
        C.about("Term 2", "13 / (towards 0), 14 % (what that leaves)");
        int[][] quotients = {{7, 2, 3, 1}, {-7, 2, -3, -1}, {7, -2, -3, 1}, {-7, -2, 3, -1}, {1, 2, 0, 1}, {-1, 2, 0,
                -1}, {LEAST, MOST, -1, -1}};
        for (int[] q : quotients) {
            tree(h, "(/ x y)", q[0], q[1], 0, q[2]);
            tree(h, "(% x y)", q[0], q[1], 0, q[3]);
            code(h, "x y /", q[0], q[1], 0, q[2]);
            code(h, "x y %", q[0], q[1], 0, q[3]);
        }
    }

    private static void quotientsByZero() {
        C.about("Term 1", "a FAULT: 1 a quotient by 0");
        BreedingHouse h = new BreedingHouse();
        for (int x : new int[] {0, 1, LEAST, MOST}) {
            tree(h, "(/ x y)", x, 0, 1, 0, 3);
            tree(h, "(% x y)", x, 0, 1, 0, 3);
            code(h, "x y /", x, 0, 1, 0, 3);
            code(h, "x y %", x, 0, 1, 0, 3);
        }
        tree(h, "(/ x y)", 0, 1, 0, 0, 3);
        tree(h, "(+ (/ 1 0) (# 0))", 0, 0, 1, 0, 4);
        tree(h, "(+ (# 0) (/ 1 0))", 0, 0, 2, 0, 3);
        code(h, "1 0 / 0 # +", 0, 0, 1, 0, 3);
        code(h, "0 # 1 0 / +", 0, 0, 2, 0, 2);
    }

    private static void placesOfTheRow() {
        C.about("Term 1", "2 a place out of the ROW");
        BreedingHouse h = new BreedingHouse();
        tree(h, "(# x)", 0, 0, 2, 0, 2);
        code(h, "x #", 0, 0, 2, 0, 2);
        Check.put(h, 10, 11, 12, 13, 14, 15, 16);
        tree(h, "(# x)", 6, 0, 0, 16, 2);
        tree(h, "(# x)", 7, 0, 2, 0, 2);
        h.put(17);
        for (int x : new int[] {-1, 8, LEAST, MOST}) {
            tree(h, "(# x)", x, 0, 2, 0, 2);
            code(h, "x #", x, 0, 2, 0, 2);
        }
        tree(h, "(# x)", 0, 0, 0, 10, 2);
        tree(h, "(# x)", 7, 0, 0, 17, 2);
        code(h, "x #", 0, 0, 0, 10, 2);
        code(h, "x #", 7, 0, 0, 17, 2);
        C.about("Term 2", "4 n (how many the ROW has)");
        tree(h, "n", 0, 0, 0, 8, 1);
        code(h, "n", 0, 0, 0, 8, 1);
        BreedingHouse empty = new BreedingHouse();
        tree(empty, "n", 5, 5, 0, 0, 1);
        code(empty, "n", 5, 5, 0, 0, 1);
    }

    /** A fold over a row of 8: two steps and eight times the second part's. */
    private static String fold(int steps, String leaf) {
        return "(@ 0 " + Trees.ofSize(steps).replace("x", leaf) + ")";
    }

    private static void limitAtFirst() {
        C.about("Term 1", "3 more STEPS than the LIMIT (at first 200; the STEP that would be one too many isn't "
                + "done).");
        BreedingHouse h = new BreedingHouse();
        Check.put(h, 1, 1, 1, 1, 1, 1, 1, 1);
        int just = Check.tree(h, "(+ " + fold(24, "e") + " (+ 1 1))");
        asked(h, just, 0, 0, 0, 0, -12 + 2, 1 + (2 + 8 * 24) + 3);
        int exactly = Check.tree(h, "(+ " + fold(24, "e") + " (+ 1 (+ 1 1)))");
        asked(h, exactly, 0, 0, 0, 0, -12 + 3, 200);
        int above = Check.tree(h, "(+ " + fold(24, "e") + " (+ 1 (+ 1 (~ 1))))");
        asked(h, above, 0, 0, 0, 3, 0, 200);
        h.set(0, 201);
        asked(h, above, 0, 0, 0, 0, -12 + 1, 201);
    }

    private static void stepTooMany() {
        C.about("Term 1", "the STEP that would be one too many isn't done");
        BreedingHouse h = new BreedingHouse();
        h.set(0, 10);
        asked(h, Check.tree(h, Trees.ofSize(10)), 1, 0, 0, 0, -5, 10);
        asked(h, Check.tree(h, Trees.ofSize(11)), 1, 0, 0, 3, 0, 10);
        asked(h, Check.tree(h, Trees.ofSize(60)), 1, 0, 0, 3, 0, 10);
        asked(h, Check.code(h, "x" + Check.repeat(" ~", 9)), 1, 0, 0, 0, -1, 10);
        asked(h, Check.code(h, "x" + Check.repeat(" ~", 10)), 1, 0, 0, 3, 0, 10);
        asked(h, Check.net(h, "2:01" + Check.repeat(",01", 8)), 1, 0, 0, 0, 0, 10);
        asked(h, Check.net(h, "2:01" + Check.repeat(",01", 9)), 1, 0, 0, 3, 0, 10);
        asked(h, Check.tree(h, "(+ (+ (+ x x) (+ x x)) (/ 1 0))"), 1, 0, 0, 3, 0, 10);
        asked(h, Check.tree(h, "(+ (+ (+ x x) (~ x)) (/ 1 0))"), 1, 0, 0, 1, 0, 10);
        asked(h, Check.code(h, "x" + Check.repeat(" ~", 7) + " 0 /"), 1, 0, 0, 1, 0, 10);
        asked(h, Check.code(h, "x" + Check.repeat(" ~", 8) + " 0 /"), 1, 0, 0, 3, 0, 10);
        Check.put(h, 0, 0, 0, 0, 0, 0, 0, 0);
        asked(h, Check.machine(h, "4:0000"), 1, 0, 0, 0, 4, 9);
        h.set(0, 2000);
        asked(h, Check.tree(h, "(+ " + fold(56, "e") + " x)"), 1, 0, 0, 0, 1, 4 + 8 * 56);
    }

    private static void foldsOfRows() {
        C.about("Term 2", "FOLD: s is the first part; then for each number of the ROW, from the first on, e is that, "
                + "and s becomes the second part, worked anew; FOLD is s then.");
        BreedingHouse h = new BreedingHouse();
        tree(h, "(@ x (/ 1 0))", 7, 0, 0, 7, 2);
        h.put(5);
        tree(h, "(@ x (- e s))", 7, 0, 0, -2, 5);
        Check.put(h, 1, 2, 3, 4, 5, 6, 9);
        tree(h, "(@ 0 e)", 0, 0, 0, 9, 10);
        tree(h, "(@ 3 s)", 0, 0, 0, 3, 10);
        tree(h, "(@ 0 (+ s 1))", 0, 0, 0, 8, 26);
        tree(h, "(@ 1 (- e s))", 0, 0, 0, 9 - 6 + 5 - 4 + 3 - 2 + 1 - 5 + 1, 26);
        tree(h, "(@ (@ 0 (+ s e)) (- s e))", 0, 0, 0, 0, 51);
    }

    private static void pileTruths() {
        C.about("Term 3", "take two (the second one from the top) and put one (1 for true, 0 for false)");
        BreedingHouse h = new BreedingHouse();
        code(h, "x y <", 1, 2, 0, 1, 3);
        code(h, "x y <", 2, 2, 0, 0, 3);
        code(h, "x y <", 3, 2, 0, 0, 3);
        code(h, "x y =", 2, 2, 0, 1, 3);
        code(h, "x y =", 2, 3, 0, 0, 3);
        C.about("Term 3", "18 b: takes one, and does so if that is 0.");
        for (int x : new int[] {1, -1, LEAST, MOST}) {
            code(h, "x b2 7 j1 8", x, 0, 0, 7, 4);
        }
        code(h, "x b2 7 j1 8", 0, 0, 0, 8, 3);
        code(h, "9 x b57" + Check.repeat(" ~", 57), 0, 0, 0, 9, 3);
        code(h, "9 x b57" + Check.repeat(" ~", 57), 1, 0, 0, -9, 60);
        C.about("Term 3", "Each that is done is a STEP (one that comes to a FAULT, too).");
        code(h, "x y / ~", 1, 0, 1, 0, 3);
        code(h, "x # ~", 1, 0, 2, 0, 2);
    }

    private static void classes() {
        C.about("Term 4", "the EDGE of its CLASS (the number modulo 4, 0 .. 3; one STEP each)");
        BreedingHouse h = new BreedingHouse();
        int m = Check.machine(h, "9:0123;1:1111;2:2222;3:3333");
        asked(h, m, 1, 2, 3, 0, 9, 1);
        int[][] classes = {{0, 9}, {1, 1}, {2, 2}, {3, 3}, {4, 9}, {7, 3}, {-1, 3}, {-2, 2}, {-3, 1}, {-4, 9}, {-5, 3},
                {LEAST, 9}, {MOST, 3}};
        for (int[] one : classes) {
            h.put(one[0]);
            int k = h.add(0, 0, 0, 0, 1, false);
            C.is("run on " + one[0], h.run(m, k), 0);
            C.is("class of " + one[0], h.value(), one[1]);
            C.is("steps", h.used(), 2);
        }
        Check.put(h, 0, 0, 0, 0, 0, 0, 0, 2);
        asked(h, m, 0, 0, 0, 0, 2, 9);
    }

    private static void linesWithoutNumbers() {
        C.about("Term 4", "Line k has the ROW's number k, 0 if it has none (further ones don't count)");
        BreedingHouse h = new BreedingHouse();
        int two = Check.net(h, "2:01");
        int three = Check.net(h, "3:01,12");
        int none = Check.net(h, "2:");
        asked(h, two, 5, 5, 5, 0, 0, 2);
        h.put(7);
        asked(h, two, 5, 5, 5, 0, 0, 2);
        asked(h, none, 5, 5, 5, 0, 7, 1);
        h.put(3);
        asked(h, two, 5, 5, 5, 0, 3, 2);
        asked(h, three, 5, 5, 5, 0, 0, 3);
        h.put(-9);
        asked(h, two, 5, 5, 5, 0, 3, 2);
        asked(h, three, 5, 5, 5, 0, -9, 3);
        Check.put(h, -1, -2, -3, -4, -5);
        asked(h, Check.net(h, "8:37"), 5, 5, 5, 0, -5, 2);
        asked(h, Check.net(h, "7:36"), 5, 5, 5, 0, -4, 2);
        C.about("Term 4", "if line i has a greater number than line j, they are exchanged");
        BreedingHouse g = new BreedingHouse();
        Check.put(g, MOST, LEAST);
        asked(g, Check.net(g, "2:01"), 0, 0, 0, 0, LEAST, 2);
        BreedingHouse up = new BreedingHouse();
        Check.put(up, LEAST, MOST);
        asked(up, Check.net(up, "2:01"), 0, 0, 0, 0, LEAST, 2);
    }

    private static void middleLines() {
        C.about("Term 4", "The OUTCOME is what line (LINES - 1) / 2 has.");
        BreedingHouse h = new BreedingHouse();
        Check.put(h, 10, 11, 12, 13, 14, 15, 16, 17);
        int[] due = {10, 11, 11, 12, 12, 13, 13};
        for (int lines = 2; lines <= 8; lines++) {
            asked(h, Check.net(h, lines + ":"), 0, 0, 0, 0, due[lines - 2], 1);
        }
    }

    private static void runs() {
        C.about("Promise 19", "A program is run on a CASE: its FAULT, 0 without.");
        BreedingHouse h = new BreedingHouse();
        int b = Check.tree(h, "(# x)");
        Check.put(h, 4);
        h.add(0, 0, 0, 0, 1, false);
        h.add(0, 0, 0, 0, 1, true);
        Check.put(h, 1, 2, 3, 4, 5);
        C.is("on the first", h.run(b, 0), 0);
        C.is("value", h.value(), 4);
        C.is("on the last, a hidden one", h.run(b, 1), 2);
        for (int k : new int[] {-1, 2, LEAST, MOST}) {
            C.fails("case " + k, Check.INDEX, () -> h.run(b, k));
        }
        for (int none : new int[] {-1, 1, LEAST, MOST}) {
            C.fails("birth " + none, Check.INDEX, () -> h.run(none, 0));
        }
    }

    private static void asks() {
        C.about("Promise 20", "It is run on x, y, z and the ROW that is collected, which stays: likewise.");
        BreedingHouse h = new BreedingHouse();
        int b = Check.tree(h, "(+ (+ x (* 10 y)) (+ (* 10 (* 10 z)) n))");
        asked(h, b, 1, 2, 3, 0, 321);
        Check.put(h, 8, 8, 8, 8, 8, 8, 8, 8);
        asked(h, b, 1, 2, 3, 0, 329);
        asked(h, b, 0, 0, 0, 0, 8);
        C.is("it stays", h.put(9), -1);
        int k = h.add(0, 0, 0, 5, 1, false);
        C.is("whole", h.told(k, 6), 8);
        C.is("want is as it was told", h.told(k, 3), 5);
        for (int none : new int[] {-1, 1, LEAST, MOST}) {
            C.fails("birth " + none, Check.INDEX, () -> h.ask(none, 0, 0, 0));
        }
    }

    private static void values() {
        C.about("Promise 21", "the NUMBER (0 with a FAULT, and ahead of all)");
        BreedingHouse h = new BreedingHouse();
        C.is("ahead of all", h.value(), 0);
        int x = Check.tree(h, "x");
        int q = Check.tree(h, "(/ x 0)");
        h.add(3, 0, 0, 0, 1, false);
        C.is("no run yet", h.value(), 0);
        h.ask(x, LEAST, 0, 0);
        C.is("of ask()", h.value(), LEAST);
        h.run(x, 0);
        C.is("of run()", h.value(), 3);
        h.ask(q, 5, 0, 0);
        C.is("of a fault", h.value(), 0);
        h.ask(x, 8, 0, 0);
        h.error(q, 0);
        h.score(q, false, 0);
        h.hits(x, false);
        h.equal(x, q);
        h.distance(x, q);
        h.search(2);
        C.is("other calls leave it", h.value(), 8);
        C.fails("a call that throws", Check.INDEX, () -> h.ask(9, 4, 4, 4));
        C.is("leaves it", h.value(), 8);
    }

    private static void usedSteps() {
        C.about("Promise 22", "how many STEPS were done (0 ahead of all)");
        BreedingHouse h = new BreedingHouse();
        C.is("ahead of all", h.used(), 0);
        int x = Check.tree(h, "x");
        int more = Check.tree(h, "(+ (~ x) (/ x 0))");
        h.add(3, 0, 0, 0, 1, false);
        h.score(more, false, 0);
        C.is("no run yet", h.used(), 0);
        h.ask(x, 0, 0, 0);
        C.is("one", h.used(), 1);
        h.run(more, 0);
        C.is("up to the fault", h.used(), 6);
        h.error(x, 0);
        h.equal(x, more);
        h.compare(x, more);
        C.is("other calls leave it", h.used(), 6);
    }

    private static void errors() {
        C.about("Term 5", "how far its NUMBER is from WANT, at most 1000000; 2000000 with a FAULT.");
        BreedingHouse h = new BreedingHouse();
        int x = Check.tree(h, "x");
        int[][] due = {{0, 0, 0}, {0, 1, 1}, {1, 0, 1}, {0, 999999, 999999}, {999999, 0, 999999}, {0, 1000000, 1000000},
                {-1, 999999, 1000000},
            {0, 1000001, 1000000}, {1000001, 0, 1000000}, {LEAST, MOST, 1000000}, {MOST, LEAST, 1000000}, {LEAST, 0,
            1000000},
            {MOST, -1, 1000000}, {MOST, MOST - 3, 3}, {LEAST, LEAST + 4, 4}, {LEAST, LEAST, 0}, {1000000000,
            -2000000000, 1000000}};
        for (int[] one : due) {
            int k = h.add(one[0], 0, 0, one[1], 1, false);
            C.is(one[0] + " for " + one[1], h.error(x, k), one[2]);
        }
        C.is("fault 1", h.error(Check.tree(h, "(/ 0 0)"), 0), 2000000);
        C.is("fault 2", h.error(Check.tree(h, "(# 0)"), 0), 2000000);
        h.set(0, 10);
        C.is("fault 3", h.error(Check.tree(h, Trees.ofSize(11)), 0), 2000000);
        C.about("Promise 23", "int error(int b, int k) throws IndexOutOfBoundsException");
        for (int k : new int[] {-1, due.length, LEAST, MOST}) {
            C.fails("case " + k, Check.INDEX, () -> h.error(x, k));
        }
        for (int none : new int[] {-1, 4, LEAST, MOST}) {
            C.fails("birth " + none, Check.INDEX, () -> h.error(none, 0));
        }
    }

    private static void scoreIs(BreedingHouse h, int b, boolean hidden, long above, long below) {
        C.is("above", h.score(b, hidden, 0), above);
        C.is("below", h.score(b, hidden, 1), below);
    }

    private static void scoresInLowestTerms() {
        C.about("Term 5", "the sum of WEIGHTS times ERRORS through the sum of WEIGHTS, in lowest terms");
        BreedingHouse h = new BreedingHouse();
        int x = Check.tree(h, "x");
        int fault = Check.tree(h, "(/ x 0)");
        h.add(3, 0, 0, 3, 9, false);
        scoreIs(h, x, false, 0, 1);
        h.add(3, 0, 0, 4, 1, false);
        scoreIs(h, x, false, 1, 10);
        h.add(3, 0, 0, 6, 3, false);
        scoreIs(h, x, false, 10, 13);
        h.add(3, 0, 0, 3, 2, false);
        scoreIs(h, x, false, 2, 3);
        scoreIs(h, fault, false, 2000000, 1);
        h.add(5, 0, 0, 0, 9, true);
        scoreIs(h, x, false, 2, 3);
        scoreIs(h, x, true, 5, 1);
        BreedingHouse full = new BreedingHouse();
        int y = Check.tree(full, "(? (= x 0) (/ 1 0) y)");
        for (int k = 0; k < 24; k++) {
            full.add(k % 2, 0, 0, MOST, 9, k >= 12);
        }
        scoreIs(full, y, false, 1500000, 1);
        scoreIs(full, y, true, 1500000, 1);
    }

    private static void scoresOfWhatIsLeft() {
        C.about("Throws", "nothing of SCORES is kept");
        BreedingHouse h = new BreedingHouse();
        int x = Check.tree(h, "x");
        h.add(3, 0, 0, 4, 2, false);
        h.add(3, 0, 0, 9, 5, false);
        h.add(3, 0, 0, 5, 7, true);
        scoreIs(h, x, false, 32, 7);
        h.drop(2);
        scoreIs(h, x, true, 0, 1);
        h.drop(1);
        scoreIs(h, x, false, 1, 1);
        C.is("hits", h.hits(x, false), 0);
        C.is("distance", h.distance(x, Check.tree(h, "y")), 3);
        h.drop(0);
        scoreIs(h, x, false, 0, 1);
    }

    private static void scoresWithoutCases() {
        C.about("Term 5", "(0 through 1 without such)");
        BreedingHouse h = new BreedingHouse();
        int b = Check.tree(h, "(/ 1 0)");
        scoreIs(h, b, false, 0, 1);
        scoreIs(h, b, true, 0, 1);
        h.add(0, 0, 0, 0, 1, true);
        scoreIs(h, b, false, 0, 1);
        scoreIs(h, b, true, 2000000, 1);
        h.drop(0);
        scoreIs(h, b, true, 0, 1);
    }

    private static void otherParts() {
        C.about("Promise 24", "IllegalArgumentException: another part.");
        BreedingHouse h = new BreedingHouse();
        int b = Check.tree(h, "x");
        for (int part : new int[] {-1, 2, LEAST, MOST}) {
            C.fails("score part " + part, Check.ARGUMENT, () -> h.score(b, false, part));
            C.fails("overfit part " + part, Check.ARGUMENT, () -> h.overfit(b, part));
        }
        for (int none : new int[] {-1, 1, LEAST, MOST}) {
            C.fails("score of " + none, Check.INDEX, () -> h.score(none, false, 0));
            C.fails("overfit of " + none, Check.INDEX, () -> h.overfit(none, 0));
            C.fails("hits of " + none, Check.INDEX, () -> h.hits(none, false));
        }
    }

    private static void overfitIs(BreedingHouse h, int b, long above, long below) {
        C.is("above", h.overfit(b, 0), above);
        C.is("below", h.overfit(b, 1), below);
    }

    private static void overfits() {
        C.about("Promise 25", "The SCORE over HIDDEN ones less that over SEEN ones, in lowest terms, below it above "
                + "0: likewise.");
        BreedingHouse h = new BreedingHouse();
        int x = Check.tree(h, "x");
        overfitIs(h, x, 0, 1);
        h.add(2, 0, 0, 0, 3, false);
        overfitIs(h, x, -2, 1);
        h.add(2, 0, 0, 0, 9, true);
        overfitIs(h, x, 0, 1);
        h.add(2, 0, 0, 2, 6, false);
        overfitIs(h, x, 4, 3);
        h.add(2, 0, 0, 2, 1, true);
        overfitIs(h, x, 17, 15);
        h.drop(1);
        overfitIs(h, x, -2, 3);
        BreedingHouse g = new BreedingHouse();
        int y = Check.tree(g, "y");
        g.add(0, 4, 0, 0, 1, true);
        overfitIs(g, y, 4, 1);
        for (int k = 0; k < 23; k++) {
            g.add(0, MOST, 0, 0, 9, k % 2 == 0);
        }
        overfitIs(g, Check.tree(g, "(? (= y 4) 0 (/ 1 0))"), -2000000, 109);
    }

    private static void hits() {
        C.about("Promise 26", "At how many SEEN (or HIDDEN) CASES the ERROR is 0.");
        BreedingHouse h = new BreedingHouse();
        int x = Check.tree(h, "x");
        int q = Check.tree(h, "(/ x x)");
        C.is("of none", h.hits(x, false), 0);
        C.is("of none", h.hits(x, true), 0);
        h.add(0, 0, 0, 0, 1, false);
        C.is("one", h.hits(x, false), 1);
        C.is("no hidden one", h.hits(x, true), 0);
        C.is("a fault isn't 0", h.hits(q, false), 0);
        h.add(5, 0, 0, 6, 1, false);
        C.is("an error of 1 isn't 0", h.hits(x, false), 1);
        for (int k = 2; k < 24; k++) {
            h.add(k, 0, 0, k, 1, true);
        }
        C.is("all hidden ones", h.hits(x, true), 22);
    }

    private static void better() {
        C.about("Promise 27", "-1 if a is BETTER than b, 1 if b is, 0 if they are one.");
        BreedingHouse h = new BreedingHouse();
        int x = Check.tree(h, "x");
        int same = Check.tree(h, "x");
        int longer = Check.tree(h, "(+ y 0)");
        int y = Check.tree(h, "y");
        C.is("one", h.compare(x, x), 0);
        C.is("the same, but a lesser birth", h.compare(x, same), -1);
        C.is("the same, but a greater birth", h.compare(same, x), 1);
        C.is("of lesser size, though a greater birth", h.compare(y, longer), -1);
        C.is("of greater size", h.compare(longer, y), 1);
        h.add(3, 2, 0, 2, 1, false);
        C.is("of lesser score, though greater", h.compare(longer, x), -1);
        C.is("of greater score", h.compare(x, longer), 1);
        h.add(3, 3, 0, 9, 1, true);
        C.is("hidden ones don't count", h.compare(longer, x), -1);
        for (int none : new int[] {-1, 4, LEAST, MOST}) {
            C.fails("a is " + none, Check.INDEX, () -> h.compare(none, 0));
            C.fails("b is " + none, Check.INDEX, () -> h.compare(0, none));
        }
    }

    private static void settings() {
        C.about("Term 7", "SETTINGS: 0 LIMIT 10 .. 2000 (200), 1 ELITES 0 .. 4 (1), 2 TOURNAMENT 1 .. 5 (3), 3 "
                + "CROSSING 0 .. 100 (30), 4 CHOICE 0 .. 2 (0).");
        int[] least = {10, 0, 1, 0, 0};
        int[] most = {2000, 4, 5, 100, 2};
        int[] first = {200, 1, 3, 30, 0};
        BreedingHouse h = new BreedingHouse();
        for (int what = 0; what < 5; what++) {
            int w = what;
            C.is("at first", h.set(w, least[w]), first[w]);
            C.is("the least", h.set(w, most[w]), least[w]);
            for (int v : new int[] {least[w] - 1, most[w] + 1, LEAST, MOST}) {
                C.fails("setting " + w + " to " + v, Check.ARGUMENT, () -> h.set(w, v));
            }
            C.is("the most, still", h.set(w, first[w]), most[w]);
        }
    }

    private static void noSuchSetting() {
        C.about("Promise 28", "IllegalArgumentException: no such SETTING, or v isn't within.");
        BreedingHouse h = new BreedingHouse();
        for (int what : new int[] {-1, 5, LEAST, MOST}) {
            for (int v : new int[] {0, 1, 10}) {
                C.fails("setting " + what, Check.ARGUMENT, () -> h.set(what, v));
            }
        }
    }

    private static void limitNow() {
        C.about("Throws", "LIMIT counts as it is at the time of a call; nothing of SCORES is kept.");
        BreedingHouse h = new BreedingHouse();
        int longer = Check.tree(h, Trees.ofSize(11));
        int wrong = Check.tree(h, "(+ x 1)");
        h.add(0, 0, 0, 0, 1, false);
        h.add(0, 0, 0, 0, 1, true);
        h.set(0, 10);
        C.is("run", h.run(longer, 0), 3);
        C.is("score", h.score(longer, false, 0), 2000000);
        C.is("overfit", h.overfit(longer, 0), 0);
        C.is("hits", h.hits(longer, false), 0);
        C.is("compare", h.compare(longer, wrong), 1);
        C.is("distance", h.distance(longer, wrong), 1000000);
        h.set(0, 11);
        C.is("run", h.run(longer, 0), 0);
        C.is("score", h.score(longer, false, 0), 0);
        C.is("hits", h.hits(longer, true), 1);
        C.is("compare", h.compare(longer, wrong), -1);
        C.is("distance", h.distance(longer, wrong), 1);
        h.drop(0);
        C.is("without the case", h.compare(longer, wrong), 1);
        h.add(0, 0, 0, 1, 1, false);
        C.is("with another one", h.score(wrong, false, 0), 0);
    }
}
