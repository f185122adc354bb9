/** The edges of promises 6 to 13, of Term 1's BIRTHS and of Term 2's ORDER. */
public final class ProgramsEdgesTest {
    private static final Check C = new Check();
    private static final int LEAST = Integer.MIN_VALUE;
    private static final int MOST = Integer.MAX_VALUE;

    public static void main(String[] args) {
        atMost600();
        howManyBirths();
        kindsAndSizes();
        ways();
        noParents();
        oneParent();
        hows();
        numbers();
        linesOfNets();
        depthsOfTrees();
        anotherWhat();
        seeds();
        itemsOfAll();
        noSuchItem();
        anotherItemWhat();
        same();
        editsAsTheirTexts();
        crossesAsTheirTexts();
        othersAsTheirTexts();
        roomForTheLast();
        sizesOfTrees();
        placesInTheOrder();
        noSuchTree();
        placesOfTrees();
        constantsOutOfTheOrder();
        noPlace();
        C.end();
    }

    private static void atMost600() {
        C.about("Term 1", "Programs are BIRTHS 0, 1, .. , at most 600; none goes.");
        BreedingHouse h = new BreedingHouse();
        C.is("the first", Check.tree(h, "x"), 0);
        C.is("the second", Check.tree(h, "y"), 1);
        Check.fill(h, 599);
        C.is("the last", Check.tree(h, "z"), 599);
        C.fails("one more", Check.STATE, () -> h.tree(1, 0));
        C.is("all are there", h.births(), 600);
        C.is("the first is", Check.print(h, 0), "x");
        C.is("the last is", Check.print(h, 599), "z");
        C.fails("birth 600", Check.INDEX, () -> h.birth(600, 0));
    }

    private static void howManyBirths() {
        C.about("Promise 6", "How many BIRTHS there are.");
        BreedingHouse h = new BreedingHouse();
        C.is("none", h.births(), 0);
        h.tree(1, 0);
        C.is("one", h.births(), 1);
        h.populate(0, 0, 16, 1, 0);
        C.is("16 more", h.births(), 17);
        h.populate(0, 0, 1, 1, 0);
        C.is("none went", h.births(), 18);
        Check.fill(h, 600);
        C.is("all", h.births(), 600);
    }

    private static void kindsAndSizes() {
        C.about("Promise 7", "Of a BIRTH: 0 KIND, 1 SIZE");
        BreedingHouse h = new BreedingHouse();
        String[] least = {"x", "x", "0:0000", "2:"};
        String[] most = {Trees.ofSize(60), "x" + Check.repeat(" ~", 59), "0:0000" + Check.repeat(";0:0000", 5),
            "8:01" + Check.repeat(",01", 39)};
        int[] leastSize = {1, 1, 1, 0};
        int[] mostSize = {60, 60, 6, 40};
        for (int kind = 0; kind < 4; kind++) {
            int a = Check.read(h, kind, least[kind]);
            int b = Check.read(h, kind, most[kind]);
            C.is("kind", h.birth(a, 0), kind);
            C.is("least size of " + kind, h.birth(a, 1), leastSize[kind]);
            C.is("most size of " + kind, h.birth(b, 1), mostSize[kind]);
        }
    }

    private static void ways() {
        C.about("Term 1", "A BIRTH has a WAY: 0 read(), 1 tree() or search(), 2 populate(), 3 edit(), change() or "
                + "breed() by change, 4 cross() or breed() by cross, 5 simple(), 6 minimal(), 7 compile(), least(), "
                + "clean()");
        BreedingHouse h = new BreedingHouse();
        int t = Check.tree(h, "(+ x 5)");
        int m = Check.machine(h, "1:0000");
        int n = Check.net(h, "2:01");
        C.is("read", h.birth(t, 2), 0);
        C.is("tree", h.birth(h.tree(1, 0), 2), 1);
        C.is("search", h.birth(h.search(1), 2), 1);
        C.is("populate", h.birth(h.populate(0, 0, 2, 1, 0), 2), 2);
        C.is("edit", h.birth(h.edit(t, 0, 0), 2), 3);
        C.is("change", h.birth(h.change(t, 0, 0), 2), 3);
        C.is("cross", h.birth(h.cross(t, t, 0), 2), 4);
        C.is("simple", h.birth(h.simple(t), 2), 5);
        C.is("minimal", h.birth(h.minimal(t), 2), 6);
        C.is("compile", h.birth(h.compile(t, 1), 2), 7);
        C.is("least", h.birth(h.least(m), 2), 7);
        C.is("clean", h.birth(h.clean(n), 2), 7);
        h.set(3, 0);
        h.breed(0, 1);
        C.is("breed by change", h.birth(h.births() - 1, 2), 3);
        h.set(3, 100);
        h.breed(0, 1);
        C.is("breed by cross", h.birth(h.births() - 1, 2), 4);
    }

    private static void noParents() {
        C.about("Promise 7", "3 and 4 its PARENTS (-1 without");
        BreedingHouse h = new BreedingHouse();
        int[] births = {Check.tree(h, "x"), h.tree(1, 0), h.search(1), h.populate(0, 0, 1, 1, 0)};
        for (int b : births) {
            C.is("first parent of " + b, h.birth(b, 3), -1);
            C.is("second parent of " + b, h.birth(b, 4), -1);
        }
        int both = h.cross(0, 0, 5);
        C.is("one parent twice", h.birth(both, 3), 0);
        C.is("one parent twice", h.birth(both, 4), 0);
    }

    private static void oneParent() {
        C.about("Promise 7", "WAYS 5 to 7 have the one that they are made of");
        BreedingHouse h = new BreedingHouse();
        h.tree(1, 0);
        int t = Check.tree(h, "x");
        int c = Check.code(h, "x");
        int m = Check.machine(h, "1:0000");
        int n = Check.net(h, "2:01");
        int[][] made = {{h.simple(t), t}, {h.minimal(c), c}, {h.compile(t, 1), t}, {h.compile(c, 0), c}, {h.least(m),
                m},
            {h.clean(n), n}, {h.edit(t, 1, 0), t}, {h.change(t, 0, 0), t}};
        for (int[] one : made) {
            C.is("the first", h.birth(one[0], 3), one[1]);
            C.is("no second", h.birth(one[0], 4), -1);
        }
    }

    private static void hows() {
        C.about("Promise 7", "5 HOW (-1 but for WAY 3)");
        BreedingHouse h = new BreedingHouse();
        int t = Check.tree(h, "(+ x 5)");
        for (int how = 0; how < 4; how++) {
            C.is("edit", h.birth(h.edit(t, how, 0), 5), how);
            C.is("change", h.birth(h.change(t, how, 0), 5), how);
        }
        C.is("how 4", h.birth(h.change(t, 4, 0), 5), 4);
        int m = Check.machine(h, "1:0000");
        C.is("also if there was no edit", h.birth(h.change(m, 3, 0), 5), 3);
        int[] others = {t, h.tree(1, 0), h.search(1), h.populate(0, 0, 1, 1, 0), h.cross(t, t, 0), h.simple(t),
                h.minimal(t), h.compile(t, 1),
            h.least(m), h.clean(Check.net(h, "2:"))};
        for (int b : others) {
            C.is("way " + h.birth(b, 2), h.birth(b, 5), -1);
        }
    }

    private static void numbers() {
        C.about("Promise 7", "6 the number of its EDIT or PAIR (-1 without; also HOW 4, or where none was)");
        BreedingHouse h = new BreedingHouse();
        int t = Check.tree(h, "(+ x 5)");
        C.is("the first edit", h.birth(h.edit(t, 0, 0), 6), 0);
        C.is("the last edit", h.birth(h.edit(t, 0, 4), 6), 4);
        C.is("a drawn edit", h.birth(h.change(t, 0, 9), 6), new Draws(9).draw(5));
        C.is("a drawn pair", h.birth(h.cross(t, t, 9), 6), new Draws(9).draw(9));
        C.is("how 4", h.birth(h.change(t, 4, 9), 6), -1);
        C.is("no edit was", h.birth(h.change(Check.tree(h, "x"), 3, 9), 6), -1);
        int m = Check.machine(h, "1:0000");
        C.is("no pair was", h.birth(h.cross(m, m, 9), 6), -1);
        int[] others = {t, h.tree(1, 0), h.search(1), h.populate(0, 0, 1, 1, 0), h.simple(t), h.minimal(t), h.compile(t,
                1), h.least(m),
            h.clean(Check.net(h, "2:"))};
        for (int b : others) {
            C.is("way " + h.birth(b, 2), h.birth(b, 6), -1);
        }
    }

    private static void linesOfNets() {
        C.about("Promise 7", "7 LINES (0 of others than NETS)");
        BreedingHouse h = new BreedingHouse();
        for (int lines = 2; lines <= 8; lines++) {
            C.is("lines", h.birth(Check.net(h, lines + ":"), 7), lines);
        }
        C.is("tree", h.birth(Check.tree(h, "x"), 7), 0);
        C.is("code", h.birth(Check.code(h, "x"), 7), 0);
        C.is("machine", h.birth(Check.machine(h, "1:0000"), 7), 0);
    }

    private static void depthsOfTrees() {
        C.about("Promise 7", "8 how deep a TREE is (0 of others)");
        BreedingHouse h = new BreedingHouse();
        for (int depth = 1; depth <= 12; depth++) {
            C.is("depth", h.birth(Check.tree(h, Trees.chain(depth)), 8), depth);
        }
        C.is("by the first part", h.birth(Check.tree(h, "(+ (~ (~ x)) y)"), 8), 4);
        C.is("by the second part", h.birth(Check.tree(h, "(+ (~ x) (~ (~ y)))"), 8), 4);
        C.is("by the third part", h.birth(Check.tree(h, "(? (< x y) z (~ (~ y)))"), 8), 4);
        C.is("code", h.birth(Check.code(h, "x ~ ~"), 8), 0);
        C.is("machine", h.birth(Check.machine(h, "1:0000"), 8), 0);
        C.is("net", h.birth(Check.net(h, "3:01,12"), 8), 0);
    }

    private static void anotherWhat() {
        C.about("Promise 7", "IllegalArgumentException: another what.");
        BreedingHouse h = new BreedingHouse();
        h.tree(1, 0);
        for (int what : new int[] {-1, 9, LEAST, MOST}) {
            C.fails("what " + what, Check.ARGUMENT, () -> h.birth(0, what));
        }
        C.is("8 is the last", h.birth(0, 8), 1);
    }

    private static void seeds() {
        C.about("Promise 8", "The seed with which it came by change(), cross() or breed(); 0 of others.");
        BreedingHouse h = new BreedingHouse();
        int t = Check.tree(h, "(+ x 5)");
        int m = Check.machine(h, "1:0000");
        for (long seed : new long[] {0, 1, -1, Long.MIN_VALUE, Long.MAX_VALUE}) {
            C.is("change", h.seed(h.change(t, 0, seed)), seed);
            C.is("how 4", h.seed(h.change(t, 4, seed)), seed);
            C.is("cross", h.seed(h.cross(t, t, seed)), seed);
            C.is("change without edits", h.seed(h.change(m, 1, seed)), seed);
            C.is("cross without pairs", h.seed(h.cross(m, m, seed)), seed);
        }
        int[] others = {t, h.tree(1, 0), h.search(1), h.populate(0, 0, 1, 1, 77), h.edit(t, 0, 0), h.simple(t),
                h.minimal(t),
            h.compile(t, 1), h.least(m), h.clean(Check.net(h, "2:"))};
        for (int b : others) {
            C.is("way " + h.birth(b, 2), h.seed(b), 0);
        }
        h.set(1, 0);
        h.breed(0, 1);
        Draws draws = new Draws(77);
        draws.wide(14);
        boolean crossing = draws.draw(100) < 30;
        for (int k = 0; k < (crossing ? 6 : 4); k++) {
            draws.next();
        }
        C.is("breed", h.seed(h.births() - 1), draws.wide(1L << 62));
        C.fails("no birth", Check.INDEX, () -> h.seed(h.births()));
        C.fails("no birth", Check.INDEX, () -> h.seed(-1));
    }

    private static void itemIs(BreedingHouse h, int b, int i, int... due) {
        for (int what = 0; what < 5; what++) {
            C.is("item(" + b + ", " + i + ", " + what + ")", h.item(b, i, what), due[what]);
        }
    }

    private static void itemsOfAll() {
        C.about("Promise 9", "what 0: SORT, OUTPUT, i; 1: a CONSTANT'S or PUSH'S NUMBER, a distance (0 of others), "
                + "the EDGE of CLASS 0, j; 2 to 4: the other EDGES (0 of others).");
        BreedingHouse h = new BreedingHouse();
        int t = Check.tree(h, "(+ -99 n)");
        itemIs(h, t, 0, 10, 0, 0, 0, 0);
        itemIs(h, t, 1, 0, -99, 0, 0, 0);
        itemIs(h, t, 2, 4, 0, 0, 0, 0);
        int c = Check.code(h, "99 x b57" + Check.repeat(" ~", 57));
        itemIs(h, c, 0, 0, 99, 0, 0, 0);
        itemIs(h, c, 1, 1, 0, 0, 0, 0);
        itemIs(h, c, 2, 18, 57, 0, 0, 0);
        itemIs(h, c, 59, 5, 0, 0, 0, 0);
        int m = Check.machine(h, "-99:1234;0:0000;0:0000;0:0000;0:0000;99:5432");
        itemIs(h, m, 0, -99, 1, 2, 3, 4);
        itemIs(h, m, 5, 99, 5, 4, 3, 2);
        int n = Check.net(h, "8:07,67");
        itemIs(h, n, 0, 0, 7, 0, 0, 0);
        itemIs(h, n, 1, 6, 7, 0, 0, 0);
    }

    private static void noSuchItem() {
        C.about("Promise 9", "IndexOutOfBoundsException: also no such i.");
        BreedingHouse h = new BreedingHouse();
        int[] births = {Check.tree(h, Trees.ofSize(60)), Check.code(h, "x"), Check.machine(h, "1:0001;2:0000"),
                Check.net(h, "2:01"),
            Check.net(h, "2:")};
        int[] sizes = {60, 1, 2, 1, 0};
        for (int k = 0; k < 5; k++) {
            int b = births[k];
            int size = sizes[k];
            if (size > 0) {
                C.is("the last is there", h.item(b, size - 1, 0) >= 0, true);
            }
            for (int i : new int[] {-1, size, LEAST, MOST}) {
                C.fails("item " + i + " of " + b, Check.INDEX, () -> h.item(b, i, 0));
            }
        }
        C.fails("no birth", Check.INDEX, () -> h.item(5, 0, 0));
        C.fails("no birth", Check.INDEX, () -> h.item(-1, 0, 0));
    }

    private static void anotherItemWhat() {
        C.about("Promise 9", "IllegalArgumentException: another what.");
        BreedingHouse h = new BreedingHouse();
        int[] births = {Check.tree(h, "x"), Check.code(h, "x"), Check.machine(h, "1:0000"), Check.net(h, "2:01")};
        for (int b : births) {
            C.is("4 is the last", h.item(b, 0, 4), 0);
            for (int what : new int[] {-1, 5, LEAST, MOST}) {
                C.fails("what " + what, Check.ARGUMENT, () -> h.item(b, 0, what));
            }
        }
    }

    private static void same() {
        C.about("Promise 10", "Whether both are the same: KIND, lines, and all in them.");
        BreedingHouse h = new BreedingHouse();
        String[][] texts = {{"x", "y", "1", "0", "(~ x)", "(# x)", "(+ x 1)", "(+ x 2)", "(+ 1 x)"}, {"x", "1", "x ~",
                "x j0", "x x b1 ~"},
            {"1:0000", "2:0000", "1:0000;1:0000", "1:0001;1:0000", "1:0000;1:0001"}, {"2:", "3:", "2:01", "3:01",
            "3:02", "2:01,01"}};
        int many = 0;
        for (int kind = 0; kind < 4; kind++) {
            for (String text : texts[kind]) {
                Check.read(h, kind, text);
                many++;
            }
        }
        for (int a = 0; a < many; a++) {
            C.is("itself", h.same(a, a), true);
        }
        int alike = 0;
        for (int a = 0; a < many; a++) {
            int b = (a + 1) % many;
            alike += h.same(a, b) || h.same(b, a) ? 1 : 0;
        }
        C.is("none is as the next one", alike, 0);
        C.is("of other lines", h.same(Check.net(h, "2:"), Check.net(h, "3:")), false);
        C.is("of other lines", h.same(Check.net(h, "3:01"), Check.net(h, "4:01")), false);
        C.is("of other kinds", h.same(Check.tree(h, "x"), Check.code(h, "x")), false);
        C.is("of other parents", h.same(h.simple(0), h.minimal(0)), true);
        C.fails("no birth", Check.INDEX, () -> h.same(h.births(), 0));
        C.fails("no birth", Check.INDEX, () -> h.same(0, h.births()));
        C.fails("no birth", Check.INDEX, () -> h.same(-1, 0));
        C.fails("no birth", Check.INDEX, () -> h.same(0, -1));
    }

    /** A birth is the same as what is read of its text: nothing else is in it. */
    private static void asItsText(BreedingHouse h, int b) {
        int again = Check.read(h, h.birth(b, 0), Check.print(h, b));
        C.is(Check.print(h, b) + " of way " + h.birth(b, 2), h.same(b, again), true);
        C.is("lines of " + Check.print(h, b), h.birth(b, 7), h.birth(again, 7));
        for (int i = 0; i < h.birth(b, 1); i++) {
            for (int what = 0; what < 5; what++) {
                C.is("item of " + Check.print(h, b), h.item(b, i, what), h.item(again, i, what));
            }
        }
    }

    private static final String[][] TEXTS = {{"5", "(? (! (< x 1)) (@ 2 (+ 3 s)) (~ (# y)))", "(+ 1 (* x (- 9 z)))",
            "(? (| (< x y) (& (= z 1) (< 1 n))) 1 2)"},
        {"5", "x x b2 ~ ~", "x 3 < b4 y 4 * j1 7", "x d * y w - # n % o 7"},
        {"5:0000", "1:0121;2:1111;3:2010", "4:1111;5:2222;6:0012", "1:0123;2:3210;3:1111;4:0000;5:4321"}, {"2:01",
        "4:01,12,23,03", "3:"}};

    private static void editsAsTheirTexts() {
        C.about("Promise 10", "KIND, lines, and all in them");
        for (int kind = 0; kind < 4; kind++) {
            for (String text : TEXTS[kind]) {
                for (int how = 0; how < 4; how++) {
                    BreedingHouse h = new BreedingHouse();
                    int b = Check.read(h, kind, text);
                    C.is(text, b, 0);
                    int many = h.edits(b, how);
                    for (int i = 0; i < many; i++) {
                        asItsText(h, h.edit(b, how, i));
                    }
                }
            }
        }
    }

    private static void crossesAsTheirTexts() {
        C.about("Promise 10", "KIND, lines, and all in them");
        for (int kind = 0; kind < 4; kind++) {
            for (int k = 0; k < TEXTS[kind].length; k++) {
                BreedingHouse h = new BreedingHouse();
                int a = Check.read(h, kind, TEXTS[kind][k]);
                int b = Check.read(h, kind, TEXTS[kind][(k + 1) % TEXTS[kind].length]);
                for (long seed = 0; seed < 40; seed++) {
                    asItsText(h, h.cross(a, b, seed * 0x9E3779B97F4A7C15L));
                    asItsText(h, h.change(a, kind == 0 ? 4 : 3, seed * 0x9E3779B97F4A7C15L));
                }
            }
        }
    }

    private static void othersAsTheirTexts() {
        C.about("Promise 10", "KIND, lines, and all in them");
        for (int kind = 0; kind < 4; kind++) {
            BreedingHouse h = new BreedingHouse();
            for (String text : TEXTS[kind]) {
                asItsText(h, h.minimal(Check.read(h, kind, text)));
            }
            for (int size = 2; size <= 6; size++) {
                int first = h.populate(0, kind, 16, size, size);
                for (int k = 0; k < 16; k++) {
                    asItsText(h, first + k);
                }
            }
        }
        BreedingHouse h = new BreedingHouse();
        for (String text : TEXTS[0]) {
            asItsText(h, h.simple(Check.tree(h, text)));
        }
        asItsText(h, h.simple(Check.tree(h, "(? (! (< x y)) (+ 1 (* z 0)) 2)")));
        asItsText(h, h.compile(Check.tree(h, "(? (| (! (< x 1)) (& (= y 2) (< z 3))) (~ (# 4)) (/ x (% y (* z (- n "
                + "5)))))"), 1));
        asItsText(h, h.compile(Check.code(h, "x 1 < 2 y = + z ~ # * d -"), 0));
        asItsText(h, h.compile(Check.code(h, "7 3 w -"), 0));
        for (String text : TEXTS[2]) {
            asItsText(h, h.least(Check.machine(h, text)));
        }
        for (String text : TEXTS[3]) {
            asItsText(h, h.clean(Check.net(h, text)));
        }
        asItsText(h, h.tree(12, 77777777777L));
        h.add(1, 2, 3, 4, 1, false);
        asItsText(h, h.search(5));
    }

    private static void roomForTheLast() {
        C.about("Term 1", "at most 600");
        for (int maker = 0; maker < 12; maker++) {
            BreedingHouse h = new BreedingHouse();
            Check.tree(h, "(+ x 5)");
            Check.code(h, "x 5 +");
            Check.machine(h, "1:0001;2:0000");
            Check.net(h, "3:01,12");
            Check.type(h, "y");
            Check.fill(h, 599);
            int m = maker;
            C.is("maker " + m + " makes the 600th", made(h, m), 599);
            C.fails("maker " + m + " makes no 601st", Check.STATE, () -> made(h, m));
        }
    }

    private static int made(BreedingHouse h, int maker) {
        switch (maker) {
            case 0: return h.read(0);
            case 1: return h.tree(1, 0);
            case 2: return h.edit(0, 0, 0);
            case 3: return h.change(0, 1, 5);
            case 4: return h.cross(3, 3, 5);
            case 5: return h.populate(0, 3, 1, 2, 5);
            case 6: return h.search(1);
            case 7: return h.simple(0);
            case 8: return h.minimal(2);
            case 9: return h.compile(1, 0);
            case 10: return h.least(2);
            default: return h.clean(3);
        }
    }

    private static void sizesOfTrees() {
        C.about("Promise 11", "IllegalArgumentException: size isn't 1 .. 12.");
        BreedingHouse h = new BreedingHouse();
        C.is("10 constants, x, y, z, n", h.trees(1), 14);
        C.is("~ and # of these", h.trees(2), 28);
        C.is("~, # of 28; five of 14 and 14; @ of 14 and 16", h.trees(3), 2 * 28 + 5 * 14 * 14 + 14 * 16);
        C.is("12", h.trees(12), 81816993880160L);
        for (int size : new int[] {0, 13, -1, LEAST, MOST}) {
            C.fails("size " + size, Check.ARGUMENT, () -> h.trees(size));
        }
    }

    private static void placesInTheOrder() {
        C.about("Term 2", "PLACE of one of them: how many of its SIZE are ahead.");
        String[] first = {"0", "(~ 0)", "(~ (~ 0))", "(~ (~ (~ 0)))"};
        String[] last = {"n", "(# n)", "(@ n e)", "(@ (# n) e)"};
        BreedingHouse h = new BreedingHouse();
        for (int size = 1; size <= 4; size++) {
            long many = h.trees(size);
            C.is("the first of size " + size, Check.print(h, h.tree(size, 0)), first[size - 1]);
            C.is("the last of size " + size, Check.print(h, h.tree(size, many - 1)), last[size - 1]);
            C.is("none is ahead of the first", h.place(Check.tree(h, first[size - 1])), 0);
            C.is("all others are ahead of the last", h.place(Check.tree(h, last[size - 1])), many - 1);
        }
        C.is("the first of 12", Check.print(h, h.tree(12, 0)), Trees.chain(12).replace('x', '0'));
        int seventh = h.tree(12, 6);
        C.is("the seventh of 12", Check.print(h, seventh), Trees.chain(12).replace('x', '6'));
        C.is("it has 12 nodes", h.birth(seventh, 1), 12);
        C.is("it is 12 deep", h.birth(seventh, 8), 12);
        C.is("the last of 12", h.place(h.tree(12, h.trees(12) - 1)), h.trees(12) - 1);
    }

    private static void noSuchTree() {
        C.about("Promise 12", "IllegalArgumentException: also if there is none such.");
        BreedingHouse h = new BreedingHouse();
        for (int size = 1; size <= 12; size++) {
            int s = size;
            long many = h.trees(s);
            C.is("the last", h.place(h.tree(s, many - 1)), many - 1);
            for (long place : new long[] {many, -1, Long.MIN_VALUE, Long.MAX_VALUE, 1L << 62}) {
                C.fails("size " + s + " place " + place, Check.ARGUMENT, () -> h.tree(s, place));
            }
        }
        for (int size : new int[] {0, 13, -1, LEAST, MOST}) {
            C.fails("size " + size, Check.ARGUMENT, () -> h.tree(size, 0));
        }
        C.is("none was made of these", h.births(), 12);
    }

    private static void placesOfTrees() {
        C.about("Promise 13", "The PLACE of a TREE");
        BreedingHouse h = new BreedingHouse();
        C.is("0", h.place(Check.tree(h, "0")), 0);
        C.is("9", h.place(Check.tree(h, "9")), 9);
        C.is("x", h.place(Check.tree(h, "x")), 10);
        C.is("(~ n)", h.place(Check.tree(h, "(~ n)")), 13);
        C.is("(# 0)", h.place(Check.tree(h, "(# 0)")), 14);
        C.is("(+ 0 0)", h.place(Check.tree(h, "(+ 0 0)")), 56);
        C.is("(@ 0 0)", h.place(Check.tree(h, "(@ 0 0)")), 56 + 5 * 196);
        C.is("(@ 0 e)", h.place(Check.tree(h, "(@ 0 e)")), 56 + 5 * 196 + 15);
        C.is("12 nodes", h.place(Check.tree(h, Trees.chain(12).replace('x', '3'))), 3);
    }

    private static void constantsOutOfTheOrder() {
        C.about("Promise 13", "-1 if it has a CONSTANT that isn't 0 .. 9.");
        BreedingHouse h = new BreedingHouse();
        for (String constant : new String[] {"10", "-1", "99", "-99", "-9"}) {
            C.is(constant, h.place(Check.tree(h, constant)), -1);
            C.is("at last " + constant, h.place(Check.tree(h, "(+ x (- y " + constant + "))")), -1);
            C.is("12 nodes", h.place(Check.tree(h, Trees.chain(12).replace("x", constant))), -1);
        }
        C.is("9 is in it", h.place(Check.tree(h, "09")), 9);
        C.is("0 is in it", h.place(Check.tree(h, "-0")), 0);
    }

    private static void noPlace() {
        C.about("Promise 13", "IllegalArgumentException: it is no TREE, or its SIZE is above 12.");
        BreedingHouse h = new BreedingHouse();
        C.is("12", h.place(Check.tree(h, Trees.ofSize(12))) > 0, true);
        int thirteen = Check.tree(h, Trees.ofSize(13));
        int out = Check.tree(h, Trees.sum(7, "10"));
        int[] others = {thirteen, out, Check.code(h, "x"), Check.machine(h, "1:0000"), Check.net(h, "2:")};
        for (int b : others) {
            C.fails("birth " + b, Check.ARGUMENT, () -> h.place(b));
        }
        C.fails("no birth", Check.INDEX, () -> h.place(h.births()));
        C.fails("no birth", Check.INDEX, () -> h.place(-1));
    }
}
