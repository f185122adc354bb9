/** Promises 19 to 28: run, ask, value, used, error, score, overfit, hits, compare, set. */
public final class JudgingTest {
    private static final Check C = new Check();

    public static void main(String[] args) {
        trees();
        code();
        machinesAndNets();
        limits();
        errors();
        scores();
        settings();
        C.end();
    }

    private static void asked(BreedingHouse h, int b, int x, int y, int z, int... due) {
        String name = Check.print(h, b) + " of " + x + ", " + y + ", " + z;
        C.is(name, h.ask(b, x, y, z), due[0]);
        C.is(name + " value", h.value(), due[1]);
        C.is(name + " used", h.used(), due[2]);
    }

    private static void tree(BreedingHouse h, String text, int x, int y, int z, int... due) {
        asked(h, Check.tree(h, text), x, y, z, due);
    }

    private static void trees() {
        BreedingHouse h = new BreedingHouse();
        int least = Integer.MIN_VALUE;
        tree(h, "(+ x (* 2 y))", 3, 4, 5, 0, 11, 5);
        tree(h, "(~ x)", least, 0, 0, 0, least, 2);
        tree(h, "(- x y)", least, 1, 0, 0, Integer.MAX_VALUE, 3);
        tree(h, "(* x y)", 65536, 65536, 0, 0, 0, 3);
        tree(h, "(/ x y)", -7, 2, 0, 0, -3, 3);
        tree(h, "(% x y)", -7, 2, 0, 0, -1, 3);
        tree(h, "(/ x y)", least, -1, 0, 0, least, 3);
        tree(h, "(% x y)", least, -1, 0, 0, 0, 3);
        tree(h, "(/ x y)", 1, 0, 0, 1, 0, 3);
        tree(h, "(% x y)", 1, 0, 0, 1, 0, 3);
        tree(h, "(+ (/ x y) z)", 1, 0, 0, 1, 0, 4);
        tree(h, "(# x)", 0, 0, 0, 2, 0, 2);
        tree(h, "n", 0, 0, 0, 0, 0, 1);
        tree(h, "(@ z (* s e))", 0, 0, 7, 0, 7, 2);
        tree(h, "(? (& (< x y) (= y z)) 1 2)", 1, 2, 2, 0, 1, 9);
        tree(h, "(? (& (< x y) (= y z)) 1 2)", 2, 2, 2, 0, 2, 6);
        tree(h, "(? (| (< x y) (= y z)) 1 2)", 1, 2, 9, 0, 1, 6);
        tree(h, "(? (| (< x y) (= y z)) 1 2)", 3, 2, 9, 0, 2, 9);
        tree(h, "(? (! (= x y)) 1 (/ 1 0))", 3, 3, 0, 1, 0, 8);
        Check.put(h, 5, 7, -2);
        tree(h, "(@ 0 (+ s e))", 0, 0, 0, 0, 10, 11);
        tree(h, "(@ (@ 1 (* s e)) (- s e))", 0, 0, 0, 0, -80, 21);
        tree(h, "(# x)", 2, 0, 0, 0, -2, 2);
        tree(h, "(# x)", 3, 0, 0, 2, 0, 2);
        tree(h, "(# x)", -1, 0, 0, 2, 0, 2);
        tree(h, "n", 0, 0, 0, 0, 3, 1);
        tree(h, "(@ 0 (? (= e 7) (/ 1 0) (+ s 1)))", 0, 0, 0, 1, 0, 16);
        C.is("the row stays", h.put(1), 4);
        C.fails("ask of none", Check.INDEX, () -> h.ask(-1, 0, 0, 0));
        C.is("value is of the latest", h.value(), 0);
        C.is("used is of the latest", h.used(), 16);
        deep(h);
    }

    /** Trees that are 12 deep in their first, second and third parts. */
    private static void deep(BreedingHouse h) {
        tree(h, Check.repeat("(~ ", 11) + "x" + Check.repeat(")", 11), 7, 0, 0, 0, -7, 12);
        tree(h, Check.repeat("(+ 1 ", 11) + "x" + Check.repeat(")", 11), 7, 0, 0, 0, 18, 23);
        tree(h, Check.repeat("(+ ", 11) + "x" + Check.repeat(" 2)", 11), 7, 0, 0, 0, 29, 23);
        tree(h, Check.repeat("(? (= 1 2) 3 ", 10) + "(~ x)" + Check.repeat(")", 10), 7, 0, 0, 0, -7, 42);
        tree(h, Check.repeat("(? (= 1 1) ", 10) + "(~ x)" + Check.repeat(" 3)", 10), 7, 0, 0, 0, -7, 42);
        tree(h, "(? " + Check.repeat("(! ", 9) + "(= 1 1)" + Check.repeat(")", 9) + " 3 x)", 7, 0, 0, 0, 7, 14);
        tree(h, "(? " + Check.repeat("(& (= 1 1) ", 9) + "(= 1 1)" + Check.repeat(")", 9) + " x 3)", 7, 0, 0, 0, 7, 41);
        tree(h, "(? " + Check.repeat("(| (= 1 2) ", 9) + "(= 1 1)" + Check.repeat(")", 9) + " x 3)", 7, 0, 0, 0, 7, 41);
        tree(h, Check.repeat("(@ ", 9) + "x" + Check.repeat(" s)", 9), 7, 0, 0, 0, 7, 46);
        tree(h, "(@ 5 " + Check.repeat("(- 1 ", 10) + "e" + Check.repeat(")", 10) + ")", 7, 0, 0, 0, 1, 86);
    }

    private static void code(BreedingHouse h, String text, int x, int y, int z, int... due) {
        asked(h, Check.code(h, text), x, y, z, due);
    }

    private static void code() {
        BreedingHouse h = new BreedingHouse();
        code(h, "x 0 < b2 1 j1 7", -1, 0, 0, 0, 1, 6);
        code(h, "x 0 < b2 1 j1 7", 4, 0, 0, 0, 7, 5);
        code(h, "x y -", 9, 4, 0, 0, 5, 3);
        code(h, "x y w -", 9, 4, 0, 0, -5, 4);
        code(h, "x y /", 9, 0, 0, 1, 0, 3);
        code(h, "x y % z +", -9, 4, 1, 0, 0, 5);
        code(h, "x d * y o", 6, 0, 0, 0, 36, 5);
        code(h, "x y =", 6, 6, 0, 0, 1, 3);
        code(h, "x y = 5 +", 6, 7, 0, 0, 5, 5);
        code(h, "x ~ ~ n +", 6, 7, 0, 0, 6, 5);
        code(h, "x #", 0, 7, 0, 2, 0, 2);
        code(h, "x b0 y", 0, 7, 0, 0, 7, 3);
        code(h, "j0 x", 3, 7, 0, 0, 3, 2);
        Check.put(h, 8, 9);
        code(h, "x # n *", 1, 0, 0, 0, 18, 4);
        code(h, "x #", 2, 0, 0, 2, 0, 2);
    }

    private static void machinesAndNets() {
        BreedingHouse h = new BreedingHouse();
        int m = Check.machine(h, "0:0111;5:1022;-3:0222");
        int n = Check.net(h, "4:01,23,02,13,12");
        int two = Check.net(h, "2:01");
        asked(h, m, 9, 9, 9, 0, 0, 1);
        asked(h, n, 9, 9, 9, 0, 0, 6);
        Check.put(h, -1, 4, 3);
        asked(h, m, 0, 0, 0, 0, -3, 4);
        asked(h, n, 0, 0, 0, 0, 0, 6);
        asked(h, two, 0, 0, 0, 0, -1, 2);
        h.put(2);
        asked(h, m, 0, 0, 0, 0, -3, 5);
        asked(h, n, 0, 0, 0, 0, 2, 6);
        Check.put(h, -50, -60);
        asked(h, n, 0, 0, 0, 0, 2, 6);
        asked(h, two, 0, 0, 0, 0, -1, 2);
        asked(h, Check.net(h, "5:"), 0, 0, 0, 0, 3, 1);
        asked(h, Check.net(h, "8:"), 0, 0, 0, 0, 2, 1);
    }

    private static void limits() {
        BreedingHouse h = new BreedingHouse();
        h.set(0, 10);
        int t = Check.tree(h, "(+ (+ (+ x y) (+ x y)) (+ x y))");
        asked(h, t, 1, 1, 1, 3, 0, 10);
        asked(h, Check.tree(h, "(+ (+ (+ x y) (+ x y)) (~ y))"), 1, 2, 1, 0, 4, 10);
        int c = Check.code(h, "x ~ ~ ~ ~ ~ ~ ~ ~ ~");
        asked(h, c, 1, 1, 1, 0, -1, 10);
        asked(h, Check.code(h, "x ~ ~ ~ ~ ~ ~ ~ ~ 0 /"), 1, 1, 1, 3, 0, 10);
        asked(h, Check.code(h, "x ~ ~ ~ ~ ~ ~ ~ 0 /"), 1, 1, 1, 1, 0, 10);
        asked(h, Check.net(h, "3:01,01,01,01,01,01,01,01,01"), 1, 1, 1, 0, 0, 10);
        asked(h, Check.net(h, "3:01,01,01,01,01,01,01,01,01,12"), 1, 1, 1, 3, 0, 10);
        Check.put(h, 1, 1, 1, 1, 1, 1, 1, 1);
        asked(h, Check.machine(h, "4:0000"), 0, 0, 0, 0, 4, 9);
        int f = Check.tree(h, "(@ 0 (+ s e))");
        asked(h, f, 0, 0, 0, 3, 0, 10);
        h.set(0, 26);
        asked(h, f, 0, 0, 0, 0, 8, 26);
        h.set(0, 25);
        asked(h, f, 0, 0, 0, 3, 0, 25);
        h.add(0, 0, 0, 8, 1, false);
        C.is("error by limit", h.error(f, 0), 2000000);
        h.set(0, 26);
        C.is("nothing of scores is kept", h.error(f, 0), 0);
    }

    private static void errors() {
        BreedingHouse h = new BreedingHouse();
        int x = Check.tree(h, "x");
        int q = Check.tree(h, "(/ 1 x)");
        h.add(5, 0, 0, 9, 1, false);
        h.add(Integer.MAX_VALUE, 0, 0, Integer.MIN_VALUE, 1, false);
        h.add(0, 0, 0, 1000000, 1, false);
        h.add(0, 0, 0, -999999, 1, false);
        C.is("4 away", h.error(x, 0), 4);
        C.is("far away", h.error(x, 1), 1000000);
        C.is("just so far", h.error(x, 2), 1000000);
        C.is("a little less", h.error(x, 3), 999999);
        C.is("a fault", h.error(q, 2), 2000000);
        C.is("run", h.run(x, 0), 0);
        C.is("value", h.value(), 5);
        C.is("run", h.run(q, 2), 1);
        C.is("used", h.used(), 3);
        C.is("error leaves that", h.error(x, 0) * 0 + h.used(), 3);
        C.fails("run of none", Check.INDEX, () -> h.run(2, 0));
        C.fails("run on none", Check.INDEX, () -> h.run(0, 4));
        C.fails("run on none", Check.INDEX, () -> h.run(0, -1));
        C.fails("error of none", Check.INDEX, () -> h.error(-1, 0));
        C.fails("error on none", Check.INDEX, () -> h.error(0, 4));
    }

    private static void scoreIs(BreedingHouse h, int b, boolean hidden, long above, long below) {
        C.is("score above", h.score(b, hidden, 0), above);
        C.is("score below", h.score(b, hidden, 1), below);
    }

    private static void scores() {
        BreedingHouse h = new BreedingHouse();
        int x = Check.tree(h, "x");
        int y = Check.tree(h, "y");
        int longer = Check.tree(h, "(+ y 0)");
        scoreIs(h, x, false, 0, 1);
        scoreIs(h, x, true, 0, 1);
        C.is("less of nothing", h.overfit(x, 0), 0);
        C.is("through 1", h.overfit(x, 1), 1);
        C.is("all alike: the lesser birth", h.compare(x, y), -1);
        h.add(1, 0, 0, 3, 2, false);
        h.add(5, 7, 0, 6, 4, false);
        scoreIs(h, x, false, 4, 3);
        scoreIs(h, y, false, 5, 3);
        C.is("better", h.compare(x, y), -1);
        C.is("worse", h.compare(y, x), 1);
        C.is("one", h.compare(y, y), 0);
        C.is("lesser size", h.compare(longer, y), 1);
        C.is("less the score of seen ones", h.overfit(x, 0), -4);
        C.is("below", h.overfit(x, 1), 3);
        h.add(4, 4, 0, 4, 9, true);
        h.add(4, 3, 0, 3, 1, true);
        scoreIs(h, x, true, 1, 10);
        scoreIs(h, y, true, 0, 1);
        C.is("1/10 - 4/3", h.overfit(x, 0), -37);
        C.is("30", h.overfit(x, 1), 30);
        C.is("hits seen", h.hits(x, false), 0);
        C.is("hits hidden", h.hits(x, true), 1);
        C.is("hits hidden", h.hits(y, true), 2);
        scoreIs(h, Check.tree(h, "(/ 1 0)"), false, 2000000, 1);
        C.fails("part 2", Check.ARGUMENT, () -> h.score(x, true, 2));
        C.fails("part -1", Check.ARGUMENT, () -> h.score(x, true, -1));
        C.fails("no birth", Check.INDEX, () -> h.score(99, true, 2));
        C.fails("part 2", Check.ARGUMENT, () -> h.overfit(x, 2));
        C.fails("no birth", Check.INDEX, () -> h.overfit(-1, 2));
        C.fails("no birth", Check.INDEX, () -> h.hits(-1, true));
        C.fails("no birth", Check.INDEX, () -> h.compare(0, -1));
        C.fails("no birth", Check.INDEX, () -> h.compare(99, 0));
    }

    private static void settings() {
        BreedingHouse h = new BreedingHouse();
        int[] least = {10, 0, 1, 0, 0};
        int[] most = {2000, 4, 5, 100, 2};
        int[] first = {200, 1, 3, 30, 0};
        for (int what = 0; what < 5; what++) {
            int w = what;
            C.is("at first", h.set(w, least[w]), first[w]);
            C.is("the least", h.set(w, most[w]), least[w]);
            C.fails("below", Check.ARGUMENT, () -> h.set(w, least[w] - 1));
            C.fails("above", Check.ARGUMENT, () -> h.set(w, most[w] + 1));
            C.is("the most", h.set(w, first[w]), most[w]);
        }
        C.fails("set(5, 1)", Check.ARGUMENT, () -> h.set(5, 1));
        C.fails("set(-1, 1)", Check.ARGUMENT, () -> h.set(-1, 1));
    }
}
