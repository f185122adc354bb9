/** The edges of promises 1 to 5, and of what Terms 2 to 4 tell of texts: each sentence has a test of its own. */
public final class TextsEdgesTest {
    private static final Check C = new Check();

    public static void main(String[] args) {
        newObject();
        typedBytes();
        typedTooMany();
        readAndEmpty();
        wrongAndEmpty();
        noSuchKind();
        fullHouse();
        printedLengths();
        letters();
        endsTooEarly();
        cantStandThere();
        thirdDigit();
        behindMinus();
        wrongType();
        sAndE();
        foldInFold();
        nodes();
        depths();
        instructions();
        states();
        comparators();
        lines();
        noLineAbove();
        minusInCode();
        distanceDigits();
        wrongCodeLast();
        wrongEdgeLast();
        printedNumbers();
        C.end();
    }

    private static void wrong(int kind, String text, int place) {
        BreedingHouse h = new BreedingHouse();
        C.is("kind " + kind + " \"" + text + "\"", Check.read(h, kind, text), -1 - place);
        C.is("no birth of \"" + text + "\"", h.births(), 0);
    }

    private static void right(int kind, String text) {
        BreedingHouse h = new BreedingHouse();
        C.is("kind " + kind + " \"" + text + "\"", Check.read(h, kind, text), 0);
    }

    private static void newObject() {
        C.about("Promise 1", "No CASES, no BIRTHS, all ISLANDS without MEMBERS");
        BreedingHouse h = new BreedingHouse();
        C.is("cases()", h.cases(), 0);
        C.fails("case 0", Check.INDEX, () -> h.told(0, 0));
        C.is("births()", h.births(), 0);
        C.fails("birth 0", Check.INDEX, () -> h.birth(0, 0));
        for (int island = 0; island < 4; island++) {
            int i = island;
            C.is("members(" + i + ")", h.members(i), 0);
            C.fails("member 0 of " + i, Check.INDEX, () -> h.member(i, 0));
            C.fails("best(" + i + ")", Check.STATE, () -> h.best(i));
        }
        C.is("the text is empty", h.type(0), 0);
        C.is("the row is empty", h.put(1), 1);
    }

    private static void typedBytes() {
        C.about("Promise 2", "Bytes of a number, the lowest first, up to the first that is 0, come behind the text "
                + "that is collected: how long it is");
        BreedingHouse h = new BreedingHouse();
        C.is("no byte", h.type(0), 0);
        C.is("a 0 ahead of others", h.type(0x7878787878787800L), 0);
        C.is("one byte", h.type('('), 1);
        C.is("seven bytes and a 0", h.type(0x2932312078202bL), 8);
        C.is("read so", Check.print(h, h.read(0)), "(+ x 12)");
        C.is("all eight", h.type(-1L), 8);
        C.is("the eighth alone is behind a 0", h.type(Long.MIN_VALUE), 8);
        C.is("the lowest first", h.type(0x7979L << 48 | 0x787878787878L), 16);
        BreedingHouse g = new BreedingHouse();
        g.type('x' | '(' << 16);
        C.is("what stands behind a 0 doesn't come", Check.print(g, g.read(0)), "x");
        BreedingHouse all = new BreedingHouse();
        for (int v = 1; v < 256; v++) {
            C.is("byte " + v, all.type(v), 1);
            C.is("it comes", all.read(0), v >= '0' && v <= '9' || v >= 'x' && v <= 'z' || v == 'n' ? all.births() - 1
                    : v == '(' || v == '-' ? -2 : -1);
        }
        BreedingHouse order = new BreedingHouse();
        C.is("two bytes", order.type('7' << 8 | '1'), 2);
        C.is("one behind them", order.type(' '), 3);
        C.is("and two", order.type('o' << 8 | ' '), 5);
        C.is("the place of the second blank", order.read(1), -1 - 3);
    }

    private static void typedTooMany() {
        C.about("Promise 2", "-1, and none comes, if it would be longer than 240.");
        String longest = "-99" + Check.repeat(" j00", 59);
        C.is("its length", longest.length(), 239);
        BreedingHouse h = new BreedingHouse();
        Check.type(h, longest);
        C.is("239", h.type(0), 239);
        C.is("two more would be 241", h.type(0x2020), -1);
        C.is("eight more", h.type(-1L), -1);
        C.is("none has come", h.type(0), 239);
        C.is("so it can be read", h.read(1), 0);
        Check.type(h, longest);
        C.is("one more is 240", h.type(' '), 240);
        C.is("241", h.type(' '), -1);
        C.is("nothing more is still 240", h.type(0), 240);
        C.is("all 240 are read", h.read(1), -1 - 240);
        for (int k = 1; k <= 29; k++) {
            h.type(-1L);
        }
        C.is("eight more are 240", h.type(-1L), 240);
        h.read(0);
        for (int k = 1; k <= 29; k++) {
            h.type(-1L);
        }
        C.is("233", h.type(0x78), 233);
        C.is("eight would be 241", h.type(-1L), -1);
        C.is("seven are 240", h.type(-1L >>> 8), 240);
    }

    private static void readAndEmpty() {
        C.about("Promise 3", "The text is read as a program of a KIND, and is empty then: its BIRTH");
        String[] texts = {"x", "x", "5:0000", "2:"};
        BreedingHouse h = new BreedingHouse();
        for (int kind = 0; kind < 4; kind++) {
            C.is("kind " + kind, Check.read(h, kind, texts[kind]), kind);
            C.is("its kind", h.birth(kind, 0), kind);
            C.is("empty then", h.type(0), 0);
        }
    }

    private static void wrongAndEmpty() {
        C.about("Promise 3", "-1 less the place that is WRONG, and none is made.");
        for (int kind = 0; kind < 4; kind++) {
            BreedingHouse h = new BreedingHouse();
            C.is("the empty text, kind " + kind, h.read(kind), -1);
            C.is("wrong at 0", Check.read(h, kind, "q"), -1);
            C.is("none is made", h.births(), 0);
            C.is("empty then, too", h.type(0), 0);
        }
        wrong(0, "(+ x q)", 5);
        wrong(1, "x y q", 4);
        wrong(2, "1:00q0", 4);
        wrong(3, "4:0q", 3);
    }

    private static void noSuchKind() {
        C.about("Promise 3", "IllegalArgumentException: no such KIND.");
        BreedingHouse h = new BreedingHouse();
        Check.type(h, "x");
        for (int kind : new int[] {-1, 4, Integer.MIN_VALUE, Integer.MAX_VALUE}) {
            C.fails("kind " + kind, Check.ARGUMENT, () -> h.read(kind));
        }
        C.is("the text stays", h.type(0), 1);
        C.is("kind 0", h.read(0), 0);
    }

    private static void fullHouse() {
        C.about("Promise 3", "IllegalStateException: there are 600 BIRTHS (here and below).");
        BreedingHouse h = new BreedingHouse();
        Check.fill(h, 599);
        C.is("the 600th", Check.tree(h, "x"), 599);
        Check.type(h, "y");
        C.fails("the 601st", Check.STATE, () -> h.read(0));
        C.is("the text stays", h.type(0), 1);
        C.is("600 are there", h.births(), 600);
        Check.type(h, "y");
        C.fails("what is wrong, too", Check.STATE, () -> h.read(0));
        C.is("the text stays", h.type(0), 2);
    }

    private static void printedLengths() {
        C.about("Promise 4", "How long a program is PRINTED.");
        BreedingHouse h = new BreedingHouse();
        C.is("the shortest tree", h.printed(Check.tree(h, "x")), 1);
        C.is("the shortest net", h.printed(Check.net(h, "2:")), 2);
        C.is("the shortest machine", h.printed(Check.machine(h, "0:0000")), 6);
        String six = Check.repeat("-99:0000;", 5) + "-99:5555";
        C.is("the longest machine", h.printed(Check.machine(h, six)), 53);
        C.is("the longest net", h.printed(Check.net(h, "8:67" + Check.repeat(",67", 39))), 121);
        String tree = "(~ " + Trees.sum(30, "-99") + ")";
        C.is("the longest tree", h.printed(Check.tree(h, tree)), 239);
        C.is("is printed whole", Check.print(h, h.births() - 1), tree);
        String code = "-99" + Check.repeat(" j00", 59);
        C.is("code", h.printed(Check.code(h, code)), 180);
        C.is("is printed whole", Check.print(h, h.births() - 1), "-99" + Check.repeat(" j0", 59));
        String pushes = "-99" + Check.repeat(" -99 +", 29) + " ~";
        C.is("pushes", Check.print(h, Check.code(h, pushes)), pushes);
        C.fails("printed(-1)", Check.INDEX, () -> h.printed(-1));
        C.fails("printed behind the last", Check.INDEX, () -> h.printed(h.births()));
    }

    private static void letters() {
        C.about("Promise 5", "Byte i of that; -1 for others.");
        BreedingHouse h = new BreedingHouse();
        int b = Check.tree(h, "(~ x)");
        C.is("the first", h.letter(b, 0), '(');
        C.is("the last", h.letter(b, 4), ')');
        for (int i : new int[] {-1, 5, 239, 240, Integer.MIN_VALUE, Integer.MAX_VALUE}) {
            C.is("letter " + i, h.letter(b, i), -1);
        }
        int longest = Check.tree(h, "(~ " + Trees.sum(30, "-99") + ")");
        C.is("the last of the longest", h.letter(longest, 238), ')');
        C.is("behind it", h.letter(longest, 239), -1);
        C.is("a shorter one behind a longer one", h.letter(b, 5), -1);
        C.fails("no birth", Check.INDEX, () -> h.letter(2, 0));
        C.fails("no birth", Check.INDEX, () -> h.letter(-1, 0));
    }

    private static void endsTooEarly() {
        C.about("Term 4", "WRONG in a text is the first byte with which it can't go on so (the length, if it ends "
                + "too early)");
        String[] trees = {"", "-", "(", "(+", "(+ ", "(+ x", "(+ x ", "(+ x y", "(@ x (+ s e)"};
        for (String text : trees) {
            wrong(0, text, text.length());
        }
        for (String text : new String[] {"", "x ", "j", "x b", "x - y "}) {
            wrong(1, text, text.length());
        }
        for (String text : new String[] {"", "-", "1", "-99", "1:", "1:0", "1:000", "1:0000;", "1:0000;-"}) {
            wrong(2, text, text.length());
        }
        for (String text : new String[] {"", "4", "4:0", "4:3", "4:01,", "4:01,2"}) {
            wrong(3, text, text.length());
        }
    }

    private static void cantStandThere() {
        C.about("Term 4", "a byte that can't stand there");
        wrong(0, "\u00ff", 0);
        wrong(0, "X", 0);
        wrong(0, " x", 0);
        wrong(0, "x ", 1);
        wrong(0, "(+ x y))", 7);
        wrong(0, "(+ x y z)", 6);
        wrong(0, "(+ x)", 4);
        wrong(0, "(~ x y)", 4);
        wrong(0, "(? (< x y) 1 2 3)", 14);
        wrong(0, "()", 1);
        wrong(0, "((~ x) y)", 1);
        wrong(1, "x  y +", 2);
        wrong(1, "x y+", 3);
        wrong(1, "s", 0);
        wrong(1, "!", 0);
        wrong(1, "x,y", 1);
        wrong(2, "1;0000", 1);
        wrong(2, "1:00 0", 4);
        wrong(2, "1:000:q", 5);
        wrong(2, "1:000/q", 5);
        wrong(2, "1:0000,1:0000", 6);
        wrong(2, "1:0000:", 6);
        wrong(3, "4;01", 1);
        wrong(3, "4:,", 2);
        wrong(3, "4:01;12", 4);
        wrong(3, "4:012", 4);
    }

    private static void thirdDigit() {
        C.about("Term 4", "a third digit");
        right(0, "99");
        right(0, "-99");
        wrong(0, "100", 2);
        wrong(0, "-100", 3);
        wrong(0, "000", 2);
        wrong(0, "(+ 123 x)", 5);
        right(1, "-99");
        wrong(1, "100", 2);
        wrong(1, "-100", 3);
        wrong(1, "x j000", 5);
        right(2, "-99:0000");
        wrong(2, "100:0000", 2);
        wrong(2, "-100:0000", 3);
    }

    private static void behindMinus() {
        C.about("Term 4", "what stands behind a - of a TREE'S or MACHINE'S CONSTANT and is no digit");
        wrong(0, "-x", 1);
        wrong(0, "--1", 1);
        wrong(0, "- 1", 1);
        wrong(0, "(+ - x)", 4);
        wrong(2, "-:0000", 1);
        wrong(2, "--1:0000", 1);
        wrong(2, "1:0000;-x", 8);
    }

    private static void wrongType() {
        C.about("Term 4", "a node that isn't of the type that its place asks for (at its first byte, but at the sign "
                + "behind a ( )");
        for (String sign : new String[] {"<", "=", "&", "|", "!"}) {
            wrong(0, "(" + sign + " x y)", 1);
            wrong(0, "(+ (" + sign + " x y) 1)", 4);
        }
        for (String leaf : new String[] {"x", "5", "-5", "n"}) {
            wrong(0, "(? " + leaf + " y z)", 3);
            wrong(0, "(? (! " + leaf + ") y z)", 6);
            wrong(0, "(? (& (< x y) " + leaf + ") y z)", 14);
            wrong(0, "(? (| " + leaf + " (< x y)) y z)", 6);
        }
        for (String sign : new String[] {"~", "#", "+", "-", "*", "/", "%", "@", "?"}) {
            wrong(0, "(? (" + sign + " x y) y z)", 4);
        }
        wrong(0, "(? (< (= x y) z) 1 2)", 7);
        wrong(0, "(? (< x y) (< x y) z)", 12);
        wrong(0, "(? (< x y) z (< x y))", 14);
        wrong(0, "(~ (! (< x y)))", 4);
    }

    private static void sAndE() {
        C.about("Term 4", "s or e out of its place");
        for (String leaf : new String[] {"s", "e"}) {
            wrong(0, leaf, 0);
            wrong(0, "(@ " + leaf + " x)", 3);
            wrong(0, "(+ (@ 0 s) " + leaf + ")", 11);
            wrong(0, "(@ (+ x " + leaf + ") s)", 8);
            right(0, "(@ x " + leaf + ")");
            right(0, "(@ x (? (< " + leaf + " 1) " + leaf + " 2))");
            right(0, "(@ (@ x " + leaf + ") " + leaf + ")");
        }
    }

    private static void foldInFold() {
        C.about("Term 4", "a FOLD within a second part (at its sign)");
        wrong(0, "(@ 0 (@ s e))", 6);
        wrong(0, "(@ 0 (+ s (@ 1 e)))", 11);
        wrong(0, "(@ 0 (? (< (@ 1 e) s) s e))", 12);
        right(0, "(@ (@ 0 s) s)");
        right(0, "(@ (+ (@ 0 s) (@ 1 e)) (+ s e))");
        right(0, "(+ (@ 0 s) (@ 1 e))");
    }

    private static void nodes() {
        C.about("Term 4", "a 61st node or instruction");
        right(0, "(~ " + Trees.sum(30, "x") + ")");
        String leafToo = Trees.sum(31, "x");
        wrong(0, leafToo, Trees.nodeAt(leafToo, 60));
        for (String sign : new String[] {"~", "!", "q"}) {
            String bracket = "(+ " + Trees.sum(29, "x") + " (~ (~ (" + sign + " x))))";
            C.is("the 61st begins with a bracket", bracket.charAt(Trees.nodeAt(bracket, 60)), '(');
            wrong(0, bracket, Trees.nodeAt(bracket, 60));
        }
    }

    private static void depths() {
        C.about("Term 4", "a node 13 deep (each at its first byte, a ( ahead of its sign)");
        right(0, Trees.chain(12));
        wrong(0, Trees.chain(13), 36);
        wrong(0, Check.repeat("(~ ", 12) + "(! x", 36);
        wrong(0, Check.repeat("(~ ", 12) + "99" + Check.repeat(")", 12), 36);
        right(0, Check.repeat("(+ x ", 11) + "y" + Check.repeat(")", 11));
        wrong(0, Check.repeat("(+ x ", 12) + "y" + Check.repeat(")", 12), 2 + 11 * 5 + 1);
    }

    private static void instructions() {
        C.about("Term 4", "a 61st node or instruction");
        right(1, "x" + Check.repeat(" ~", 59));
        wrong(1, "x" + Check.repeat(" ~", 60), 120);
        wrong(1, "x" + Check.repeat(" ~", 59) + " -9", 120);
        wrong(1, "x" + Check.repeat(" ~", 59) + " q", 120);
        wrong(1, "x" + Check.repeat(" ~", 59) + " ", 120);
        wrong(1, "x" + Check.repeat(" ~", 59) + "~", 119);
        wrong(1, "o" + Check.repeat(" ~", 60), 120);
    }

    private static void states() {
        C.about("Term 4", "a 7th state");
        String six = "1:0000" + Check.repeat(";1:0000", 5);
        right(2, six);
        wrong(2, six + ";1:0000", 42);
        wrong(2, six + ";-", 42);
        wrong(2, six + ";", 42);
        wrong(2, six + "1", 41);
        wrong(2, "1:6666" + Check.repeat(";1:0000", 6), 42);
    }

    private static void comparators() {
        C.about("Term 4", "a 41st COMPARATOR");
        String forty = "8:01" + Check.repeat(",67", 39);
        right(3, forty);
        wrong(3, forty + ",01", 122);
        wrong(3, forty + ",", 122);
        wrong(3, forty + "0", 121);
        right(3, "8:");
    }

    private static void lines() {
        C.about("Term 4", "digits that are no lines, a j that isn't above i");
        for (int lines = 0; lines <= 9; lines++) {
            if (lines < 2 || lines > 8) {
                wrong(3, lines + ":", 0);
            } else {
                right(3, lines + ":");
                right(3, lines + ":0" + (lines - 1));
                wrong(3, lines + ":0" + lines, 3);
                wrong(3, lines + ":" + lines + lines, 2);
                right(3, lines + ":" + (lines - 2) + (lines - 1));
            }
        }
        wrong(3, "4:10", 3);
        wrong(3, "4:11", 3);
        right(3, "4:12");
        wrong(3, "4:01,22", 6);
    }

    private static void noLineAbove() {
        C.about("Term 4", "the digits i, j (if no line is above i: WRONG at j)");
        wrong(3, "2:1", 3);
        wrong(3, "2:11", 3);
        wrong(3, "4:3", 3);
        wrong(3, "4:33", 3);
        wrong(3, "4:34", 3);
        wrong(3, "8:7x", 3);
        wrong(3, "8:78", 3);
    }

    private static void minusInCode() {
        C.about("Term 3", "a PUSH like a CONSTANT, the signs (- ahead of a digit is a PUSH'S)");
        BreedingHouse h = new BreedingHouse();
        int b = Check.code(h, "3 -4 -");
        C.is("3 instructions", h.birth(b, 1), 3);
        C.is("a push of -4", h.item(b, 1, 1), -4);
        C.is("the sign", h.item(b, 2, 0), 8);
        C.is("a minus at the end", Check.code(h, "x y -"), 1);
        C.is("a minus in the middle", Check.code(h, "x y - ~"), 2);
        Check.code(h, "x y z 5 6 7");
        C.is("a minus at the end where a digit stood", Check.code(h, "x y -"), 3);
        wrong(1, "-x", 1);
        wrong(1, "x y -x", 5);
        wrong(1, "x y --1", 5);
        wrong(1, "-", 0);
    }

    private static void distanceDigits() {
        C.about("Term 3", "j and b and behind them at once 1 or 2 digits (60 .. 99, too: that leads behind the end)");
        right(1, "x j0");
        right(1, "x j00");
        wrong(1, "x j", 3);
        wrong(1, "x j 0", 3);
        wrong(1, "x jx", 3);
        wrong(1, "x j-1", 3);
        wrong(1, "x j000", 5);
        wrong(1, "x x b", 5);
        for (int distance : new int[] {1, 59, 60, 99}) {
            wrong(1, "x j" + distance, 2);
            wrong(1, "x x b" + distance, 4);
        }
        wrong(1, "x j99 q", 6);
    }

    private static void wrongCodeLast() {
        C.about("Term 4", "when all that is right: of CODE the first byte of the first instruction that is WRONG");
        wrong(1, "o", 0);
        wrong(1, "o q", 2);
        wrong(1, "x -12 x", 2 + 4);
        wrong(1, "x y", 2);
        wrong(1, "-12 +", 4);
    }

    private static void wrongEdgeLast() {
        C.about("Term 4", "of a MACHINE the first EDGE to a state that there isn't.");
        wrong(2, "0:1000", 2);
        wrong(2, "0:0001", 5);
        wrong(2, "0:0090;1:0000", 4);
        wrong(2, "0:0001;1:0002", 12);
        wrong(2, "0:0002;1:0002", 5);
        right(2, "0:0001;1:0001");
        wrong(2, "0:9999;q", 7);
        wrong(2, "0:9000;1:0000;", 14);
        wrong(2, Check.repeat("1:0000;", 5) + "1:6000", 37);
        right(2, Check.repeat("1:5555;", 5) + "1:5555");
    }

    private static void printedNumbers() {
        C.about("Term 2", "PRINTED: CONSTANTS without a 0 ahead, 0 without -.");
        String[][] trees = {{"0", "0"}, {"00", "0"}, {"-0", "0"}, {"-00", "0"}, {"09", "9"}, {"-09", "-9"}, {"9", "9"},
            {"10", "10"}, {"-10", "-10"}, {"99", "99"}, {"-99", "-99"}};
        for (String[] one : trees) {
            BreedingHouse h = new BreedingHouse();
            C.is("tree " + one[0], Check.print(h, Check.tree(h, one[0])), one[1]);
            C.is("code " + one[0], Check.print(h, Check.code(h, one[0])), one[1]);
            C.is("machine " + one[0], Check.print(h, Check.machine(h, one[0] + ":0000")), one[1] + ":0000");
        }
        C.about("Term 3", "PRINTED likewise, without a 0 ahead.");
        BreedingHouse h = new BreedingHouse();
        C.is("distances", Check.print(h, Check.code(h, "x x b01 ~ j00")), "x x b1 ~ j0");
        C.is("two digits", Check.print(h, Check.code(h, "x x b10" + Check.repeat(" ~", 10))), "x x b10"
                + Check.repeat(" ~", 10));
    }
}
