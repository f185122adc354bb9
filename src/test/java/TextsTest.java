/** Promises 1 to 5: a new object, type, read, printed, letter. */
public final class TextsTest {
    private static final Check C = new Check();

    public static void main(String[] args) {
        newObject();
        typing();
        reading();
        wrongTrees();
        wrongCode();
        wrongMachines();
        wrongNets();
        printing();
        C.end();
    }

    private static void newObject() {
        BreedingHouse h = new BreedingHouse();
        C.is("births()", h.births(), 0);
        C.is("cases()", h.cases(), 0);
        C.is("value()", h.value(), 0);
        C.is("used()", h.used(), 0);
        C.is("rows()", h.rows(), 0);
        for (int i = 0; i < 4; i++) {
            C.is("members", h.members(i), 0);
            C.is("front", h.front(i, 0), -1);
        }
        for (int w = 0; w < 15; w++) {
            C.is("witness", h.witness(w), 0);
        }
        C.is("put", h.put(9), 1);
        C.is("type of nothing", h.type(0), 0);
    }

    private static void typing() {
        BreedingHouse h = new BreedingHouse();
        C.is("one byte", h.type(0x78), 1);
        C.is("a 0 ends it", h.type(0x7900000078L), 2);
        C.is("eight bytes", h.type(0x2020202020202020L), 10);
        C.is("high bytes", h.type(-1L), 18);
        BreedingHouse full = new BreedingHouse();
        for (int k = 1; k <= 29; k++) {
            C.is("grows", full.type(0x7878787878787878L), 8 * k);
        }
        C.is("seven more", full.type(0x78787878787878L), 239);
        C.is("would be 241", full.type(0x7878), -1);
        C.is("240 is fine", full.type(0x78), 240);
        C.is("one too many", full.type(0x78), -1);
        C.is("none more is none too many", full.type(0), 240);
        C.is("it is wrong at 1", full.read(0), -2);
        C.is("the text is empty then", full.type(0x31), 1);
    }

    private static void reading() {
        BreedingHouse h = new BreedingHouse();
        Check.type(h, "x");
        C.fails("read(-1)", Check.ARGUMENT, () -> h.read(-1));
        C.fails("read(4)", Check.ARGUMENT, () -> h.read(4));
        C.is("the text is still there", h.read(0), 0);
        C.is("a tree is no code", Check.code(h, "(+ x y)"), -1);
        C.is("none was made", h.births(), 1);
        C.is("code", Check.code(h, "x y +"), 1);
        C.is("machine", Check.machine(h, "-7:0000"), 2);
        C.is("net", Check.net(h, "2:"), 3);
        Check.fill(h, 600);
        Check.type(h, "y");
        C.fails("no room", Check.STATE, () -> h.read(0));
        C.fails("no kind stands first", Check.ARGUMENT, () -> h.read(9));
        C.is("the text stays", h.type(0), 1);
    }

    private static void wrong(int kind, String text, int place) {
        BreedingHouse h = new BreedingHouse();
        C.is("kind " + kind + " " + text, Check.read(h, kind, text), -1 - place);
        C.is("none is made of " + text, h.births(), 0);
        C.is("empty after " + text, h.type(0), 0);
    }

    private static void right(int kind, String text) {
        BreedingHouse h = new BreedingHouse();
        C.is("kind " + kind + " " + text, Check.read(h, kind, text), 0);
    }

    private static void wrongTrees() {
        wrong(0, "", 0);
        wrong(0, "(+ x", 4);
        wrong(0, "(+ x y", 6);
        wrong(0, "(+ x y))", 7);
        wrong(0, "(+  x y)", 3);
        wrong(0, "(+x y)", 2);
        wrong(0, "x ", 1);
        wrong(0, "123", 2);
        wrong(0, "-123", 3);
        wrong(0, "-", 1);
        wrong(0, "-x", 1);
        wrong(0, "--1", 1);
        wrong(0, "(- 1 -)", 6);
        wrong(0, "(", 1);
        wrong(0, "(x 1)", 1);
        wrong(0, "a", 0);
        wrong(0, "\u00ff", 0);
        wrong(0, "(< x y)", 1);
        wrong(0, "(+ (< x y) 1)", 4);
        wrong(0, "(? x y z)", 3);
        wrong(0, "(? -1 y z)", 3);
        wrong(0, "(? (+ x y) y z)", 4);
        wrong(0, "(? (! x) y z)", 6);
        wrong(0, "s", 0);
        wrong(0, "(@ s x)", 3);
        wrong(0, "(+ 1 e)", 5);
        wrong(0, "(@ 0 (@ s e))", 6);
        wrong(0, "(@ 0 (+ s (@ 1 e)))", 11);
        right(0, "(@ (@ 0 (+ s e)) (* s e))");
        right(0, Check.repeat("(~ ", 11) + "x" + Check.repeat(")", 11));
        wrong(0, Check.repeat("(~ ", 12) + "x" + Check.repeat(")", 12), 36);
        wrong(0, Check.repeat("(~ ", 13) + "x" + Check.repeat(")", 13), 36);
        String fifty9 = fullTree(59);
        wrong(0, "(+ x " + fifty9 + ")", 5 + fifty9.lastIndexOf('1'));
        right(0, fifty9);
        wrong(0, "(+ (~ x) " + fifty9 + ")", 9 + nthNode(fifty9, 57));
    }

    /** A tree of an odd size: the sum of a list, as a balanced tree, whose last leaf is 1. */
    private static String fullTree(int size) {
        if (size == 1) {
            return "1";
        }
        int left = (size - 1) / 2 % 2 == 1 ? (size - 1) / 2 : (size - 1) / 2 - 1;
        return "(+ " + fullTree(left).replace('1', 'x') + " " + fullTree(size - 1 - left) + ")";
    }

    /** Where node n of a tree of sums begins. */
    private static int nthNode(String text, int n) {
        int left = n;
        for (int i = 0; i < text.length(); i++) {
            char c = text.charAt(i);
            if (c == '(' || c == 'x' || c == '1') {
                if (left == 0) {
                    return i;
                }
                left--;
            }
        }
        return -1;
    }

    private static void wrongCode() {
        wrong(1, "", 0);
        wrong(1, " x", 0);
        wrong(1, "x ", 2);
        wrong(1, "x  y +", 2);
        wrong(1, "xy", 1);
        wrong(1, "-x", 1);
        wrong(1, "123", 2);
        wrong(1, "x j", 3);
        wrong(1, "x jx", 3);
        wrong(1, "x j123", 5);
        wrong(1, "x s +", 2);
        wrong(1, "x +", 2);
        wrong(1, "x y", 2);
        wrong(1, "o", 0);
        wrong(1, "d", 0);
        wrong(1, "x w", 2);
        wrong(1, "b0 x", 0);
        wrong(1, "j1 x y", 3);
        wrong(1, "x j1 j0", 5);
        wrong(1, "x j9", 2);
        wrong(1, "x j60", 2);
        wrong(1, "x b99 1", 2);
        wrong(1, "x b1 1", 2);
        wrong(1, "x d b1 o", 7);
        wrong(1, "x x x x x x x x x", 16);
        wrong(1, "x x x x x x x x d", 16);
        wrong(1, Check.repeat("x o ", 30) + "x", 120);
        wrong(1, "x" + Check.repeat(" ~", 60), 120);
        wrong(1, "x" + Check.repeat(" ~", 59) + " ", 120);
        right(1, "x" + Check.repeat(" ~", 59));
        right(1, "3 -4 -");
        right(1, "j0 x");
        right(1, "x b2 1 j1 7");
        right(1, "x x x x x x x x + + + + + + +");
        right(1, "x j00 d o");
    }

    private static void wrongMachines() {
        wrong(2, "", 0);
        wrong(2, "x", 0);
        wrong(2, "-:0000", 1);
        wrong(2, "123:0000", 2);
        wrong(2, "1", 1);
        wrong(2, "1:", 2);
        wrong(2, "1:000", 5);
        wrong(2, "1:00000", 6);
        wrong(2, "1:0000;", 7);
        wrong(2, "1:0000,2:0000", 6);
        wrong(2, "0:0011", 4);
        wrong(2, "0:0190;1:0000", 4);
        wrong(2, "0:0100;1:0020", 11);
        wrong(2, "0:9000;x", 7);
        wrong(2, Check.repeat("1:0000;", 6) + "1:0000", 42);
        right(2, Check.repeat("1:0000;", 5) + "-99:5432");
    }

    private static void wrongNets() {
        wrong(3, "", 0);
        wrong(3, "1:", 0);
        wrong(3, "9:01", 0);
        wrong(3, "4", 1);
        wrong(3, "4;", 1);
        wrong(3, "4:,", 2);
        wrong(3, "4:4", 2);
        wrong(3, "4:0", 3);
        wrong(3, "4:04", 3);
        wrong(3, "4:10", 3);
        wrong(3, "4:11", 3);
        wrong(3, "4:3", 3);
        wrong(3, "4:32", 3);
        wrong(3, "4:33", 3);
        wrong(3, "4:01,", 5);
        wrong(3, "4:01;12", 4);
        wrong(3, "4:012", 4);
        wrong(3, "3:01" + Check.repeat(",12", 40), 2 + 3 * 40);
        right(3, "3:01" + Check.repeat(",12", 39));
        right(3, "8:");
        right(3, "2:01,01");
    }

    private static void printing() {
        BreedingHouse h = new BreedingHouse();
        C.is("zeros", Check.print(h, Check.tree(h, "(+ -00 (- 07 -09))")), "(+ 0 (- 7 -9))");
        C.is("all sorts", Check.print(h, Check.tree(h,
                "(@ (? (| (& (< x y) (= z n)) (! (< 1 -99))) (~ (# 0)) (* (/ x 2) (% y 3))) (- (+ s e) 9))")),
                "(@ (? (| (& (< x y) (= z n)) (! (< 1 -99))) (~ (# 0)) (* (/ x 2) (% y 3))) (- (+ s e) 9))");
        C.is("code", Check.print(h, Check.code(h, "-05 j00 b02 x j01 y")), "-5 j0 b2 x j1 y");
        C.is("code's signs", Check.print(h, Check.code(h, "x y z n ~ # + - * 1 / 2 % 3 < 4 = d w o")),
                "x y z n ~ # + - * 1 / 2 % 3 < 4 = d w o");
        C.is("machine", Check.print(h, Check.machine(h, "-00:0110;07:1001")), "0:0110;7:1001");
        C.is("net", Check.print(h, Check.net(h, "8:01,67,07")), "8:01,67,07");
        C.is("empty net", Check.print(h, Check.net(h, "3:")), "3:");
        C.is("letter", h.letter(0, 0), '(');
        C.is("last letter", h.letter(0, h.printed(0) - 1), ')');
        C.is("behind", h.letter(0, h.printed(0)), -1);
        C.is("ahead", h.letter(0, -1), -1);
        C.is("far", h.letter(0, Integer.MAX_VALUE), -1);
        C.fails("printed(-1)", Check.INDEX, () -> h.printed(-1));
        C.fails("printed behind", Check.INDEX, () -> h.printed(h.births()));
        C.fails("letter of none", Check.INDEX, () -> h.letter(99, 0));
        longest();
    }

    private static void longest() {
        BreedingHouse h = new BreedingHouse();
        String longCode = "-99" + Check.repeat(" -99 *", 29) + " ~";
        C.is("long code", Check.print(h, Check.code(h, longCode)), longCode);
        int big = Check.tree(h, fullTree(59));
        for (int i = 0; i < 40; i++) {
            int before = big;
            big = h.edits(big, 0) > 0 ? h.change(big, 0, i) : big;
            C.is("same length but for the constant", Math.abs(h.printed(big) - h.printed(before)) < 3, true);
        }
    }
}
