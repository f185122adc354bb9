/** The edges of promises 29 to 33, of Term 3's SOUND code and of Term 6's EDITS and PAIRS. */
public final class ChangesEdgesTest {
    private static final Check C = new Check();
    private static final int LEAST = Integer.MIN_VALUE;
    private static final int MOST = Integer.MAX_VALUE;

    public static void main(String[] args) {
        notReached();
        takesTooMuch();
        leavesTooMuch();
        behindTheEnd();
        otherHeights();
        atTheEnd();
        constants();
        leaves();
        twoParts();
        folds();
        smaller();
        parts();
        pushes();
        instructionSorts();
        leftOut();
        jumpLeftOut();
        comeIn();
        codeIsFull();
        pileIsFull();
        outputs();
        edges();
        newStates();
        statesLeftOut();
        otherComparators();
        comparatorsLeftOut();
        newComparators();
        exchanged();
        pairsOfTrees();
        pairsOfFolds();
        pairsOfCode();
        pairsOfMachines();
        pairsOfNets();
        pairsByTurns();
        noPairs();
        anotherHow();
        anotherHowOfEdit();
        noSuchEdit();
        drawnEdits();
        withoutEdits();
        howOfChange();
        drawnPairs();
        withoutPairs();
        twoKinds();
        regrownTruths();
        regrownInFolds();
        regrownTooDeep();
        regrownTooGreat();
        C.end();
    }

    private static void wrong(String text, int place) {
        BreedingHouse h = new BreedingHouse();
        C.is("\"" + text + "\"", Check.code(h, text), -1 - place);
    }

    private static void right(String text) {
        BreedingHouse h = new BreedingHouse();
        C.is("\"" + text + "\"", Check.code(h, text), 0);
    }

    private static void notReached() {
        C.about("Term 3", "in their order, an instruction that isn't reached by those ahead");
        wrong("j1 x y", 3);
        wrong("x j1 ~", 5);
        wrong("x j2 ~ ~", 5);
        wrong("x j1 j0", 5);
        right("x j0 ~");
        right("x x b2 ~ j1 ~ ~");
        wrong("x x b1 ~ j1 ~ ~", 12);
        wrong("j1 o o x", 3);
    }

    private static void takesTooMuch() {
        C.about("Term 3", "takes no more than there is (d wants one there, w two)");
        for (String one : new String[] {"~", "#"}) {
            wrong(one, 0);
            right("x " + one);
        }
        for (String two : new String[] {"+", "-", "*", "/", "%", "<", "="}) {
            wrong(two, 0);
            wrong("x " + two, 2);
            right("x y " + two);
        }
        wrong("d o x", 0);
        right("x d +");
        wrong("w x", 0);
        wrong("x w", 2);
        right("x y w +");
        wrong("o x", 0);
        right("x o y");
        wrong("b0 x", 0);
        right("x b0 y");
        right("j0 x");
    }

    private static void leavesTooMuch() {
        C.about("Term 3", "leaves at most 8");
        String eight = "x" + Check.repeat(" x", 7);
        right(eight + Check.repeat(" +", 7));
        right(eight + " w ~" + Check.repeat(" +", 7));
        for (String put : new String[] {"x", "y", "z", "n", "5", "d"}) {
            wrong(eight + " " + put + Check.repeat(" +", 8), 16);
            right("x" + Check.repeat(" x", 6) + " " + put + Check.repeat(" +", 7));
        }
    }

    private static void behindTheEnd() {
        C.about("Term 3", "passes over none behind the end");
        right("x j0");
        wrong("x j1", 2);
        right("x x b0");
        wrong("x x b1", 4);
        right("x x b1 ~");
        wrong("x x b2 ~", 4);
        right("x x b57" + Check.repeat(" ~", 57));
        wrong("x x b58" + Check.repeat(" ~", 57), 4);
        right("x x b2 ~ j1 ~");
        wrong("x x b2 ~ j2 ~", 9);
    }

    private static void otherHeights() {
        C.about("Term 3", "leads to a place (the end, too) with another height than an earlier one did");
        right("x x b1 ~ ~");
        wrong("x x b1 x ~", 7);
        wrong("x x b1 x", 7);
        wrong("x y x b1 + ~ +", 9);
        right("x b2 1 j1 2");
        right("x b2 1 j1 2 3 +");
        wrong("x b2 1 j2 2 3 +", 12);
        wrong("x b3 1 2 j1 3", 9);
        wrong("x y b1 o", 7);
        // A place is reached with height 0, then with 1.
        wrong("x b1 1 2", 5);
        wrong("x b2 1 j1 2 +", 12);
    }

    private static void atTheEnd() {
        C.about("Term 3", "the end is reached with height 1");
        right("x");
        wrong("x y", 2);
        wrong("x o", 2);
        wrong("j0", 0);
        wrong("x b0", 2);
        wrong("x y j0", 4);
        C.about("Term 3", "(or to the end with another than 1)");
        wrong("x b1 1", 2);
        wrong("x y z b1 +", 6);
    }

    private static final String[][] NEXT = {{"99", "98/89/-99"}, {"98", "99/97/88/-98"}, {"90", "91/89/80/-90"}, {"89",
            "90/88/99/79/-89"},
        {"0", "1/-1/10/-10"}, {"1", "2/0/11/-9/-1"}, {"5", "6/4/15/-5/-5"}, {"-1", "0/-2/9/-11/1"}, {"-89",
        "-88/-90/-79/-99/89"},
        {"-90", "-89/-91/-80/90"}, {"-98", "-97/-99/-88/98"}, {"-99", "-98/-89/99"}};

    private static void constants() {
        C.about("Term 6", "1 more, 1 less, 10 more, 10 less, less it (within -99 .. 99, another one)");
        for (String[] one : NEXT) {
            C.editsAre(0, one[0], 0, one[1]);
        }
        C.editsAre(0, "x", 0, "");
        C.editsAre(0, "(+ 99 0)", 0, "(+ 98 0)/(+ 89 0)/(+ -99 0)/(+ 99 1)/(+ 99 -1)/(+ 99 10)/(+ 99 -10)");
        C.about("Term 6", "(those that come to the same count each)");
        C.editsMany(0, "(+ 5 5)", 0, 10);
        C.editsAre(0, "(~ (~ x))", 3, "(~ x)/(~ x)");
    }

    private static void leaves() {
        C.about("Term 6", "a node without parts: CONSTANT 1, unless it is a CONSTANT, or 1 .. 6");
        C.editsAre(0, "x", 1, "1/y/z/n");
        C.editsAre(0, "n", 1, "1/x/y/z");
        C.editsAre(0, "1", 1, "x/y/z/n");
        C.editsAre(0, "0", 1, "x/y/z/n");
        C.editsAre(0, "(@ 0 e)", 1, "(@ x e)/(@ y e)/(@ z e)/(@ n e)/(@ 0 1)/(@ 0 x)/(@ 0 y)/(@ 0 z)/(@ 0 n)/(@ 0 s)");
        C.editsAre(0, "(~ x)", 1, "(# x)/(~ 1)/(~ y)/(~ z)/(~ n)");
        C.editsAre(0, "(# 5)", 1, "(~ 5)/(# x)/(# y)/(# z)/(# n)");
    }

    private static void twoParts() {
        C.about("Term 6", "of each node another SORT (rising) of the same type with as many parts of the same types "
                + "(@ among + .. %");
        BreedingHouse h = new BreedingHouse();
        String[] signs = {"+", "-", "*", "/", "%", "@"};
        for (int own = 0; own < 6; own++) {
            int b = Check.tree(h, "(" + signs[own] + " 1 2)");
            int i = 0;
            for (int other = 0; other < 6; other++) {
                if (other != own) {
                    C.is("other sign", Check.print(h, h.edit(b, 1, i)), "(" + signs[other] + " 1 2)");
                    i++;
                }
            }
        }
        C.editsMany(0, "(? (< x y) 1 2)", 1, 1 + 4 + 4 + 4 + 4);
        C.editsMany(0, "(? (= x y) 1 2)", 1, 1 + 4 + 4 + 4 + 4);
        C.editsMany(0, "(? (& (< x y) (= x y)) 1 2)", 1, 1 + 1 + 8 + 1 + 8 + 8);
        C.editsMany(0, "(? (! (< x y)) 1 2)", 1, 1 + 8 + 8);
    }

    private static void folds() {
        C.about("Term 2", "no FOLD stands in the second part of one");
        C.editsMany(0, "(@ 1 (+ s 2))", 1, 4 + 4 + 6 + 6);
        C.editsMany(0, "(@ 1 (+ z 2))", 1, 5 + 4 + 4 + 6 + 6);
        C.editsMany(0, "(+ 1 (@ 2 s))", 1, 4 + 4 + 4 + 6);
        C.editsMany(0, "(+ (@ 2 s) 1)", 1, 5 + 4 + 6 + 4);
        C.editsMany(0, "(+ 1 (~ (@ 2 3)))", 1, 4 + 4 + 1 + 5 + 4 + 6);
        C.about("Term 2", "s and e stand in second parts of FOLDS alone");
        for (String s : new String[] {"s", "e"}) {
            String[] seconds = {"(+ " + s + " 1)", "(+ 1 " + s + ")", "(? (< " + s + " 1) 2 3)", "(? (< 1 " + s
                    + ") 2 3)", "(? (< 1 2) " + s + " 3)",
                "(? (< 1 2) 3 " + s + ")", "(~ (- 1 (~ " + s + ")))"};
            for (String second : seconds) {
                BreedingHouse h = new BreedingHouse();
                int fold = Check.tree(h, "(@ x " + second + ")");
                C.is("the whole can't become " + second, Check.print(h, h.edit(fold, 3, 0)) + Check.print(h,
                        h.edit(fold, 3, 1)).charAt(1), "x@");
                C.is("nor + of x and " + second, Check.print(h, h.edit(fold, 1, 0)), "(@ 1 " + second + ")");
                C.is("x can't become it", h.pairs(Check.tree(h, "x"), fold), 2 + free(second));
            }
        }
        C.editsAre(0, "(@ x (~ s))", 3, "x/(@ x s)");
        C.editsAre(0, "(@ x (~ e))", 3, "x/(@ x e)");
        C.editsAre(0, "(@ x (~ y))", 3, "x/(~ y)/(@ x y)");
        C.editsAre(0, "(@ (@ x s) (~ y))", 3, "(@ x s)/(~ y)/(@ x (~ y))/(@ (@ x s) y)");
    }

    /** How many numbers of a text have neither s nor e in them. */
    private static int free(String text) {
        int many = 0;
        for (int k = 0; Trees.nodeAt(text, k) >= 0; k++) {
            String rest = text.substring(Trees.nodeAt(text, k));
            int end = 0;
            for (int open = 0; end == 0 || open > 0; end++) {
                open += rest.charAt(end) == '(' ? 1 : rest.charAt(end) == ')' ? -1 : 0;
            }
            String node = rest.substring(0, end);
            many += node.contains("s") || node.contains("e") || node.startsWith("(<") ? 0 : 1;
        }
        return many;
    }

    private static void smaller() {
        C.about("Term 6", "2: each node in order becomes a CONSTANT 0, x, or the CONSTANT 1 (NUMBERS that aren't "
                + "that already).");
        C.editsAre(0, "0", 2, "x/1");
        C.editsAre(0, "x", 2, "0/1");
        C.editsAre(0, "1", 2, "0/x");
        C.editsAre(0, "2", 2, "0/x/1");
        C.editsAre(0, "y", 2, "0/x/1");
        C.editsAre(0, "(~ 0)", 2, "0/x/1/(~ x)/(~ 1)");
        C.editsAre(0, "(? (! (< 0 x)) 1 y)", 2, "0/x/1/(? (! (< x x)) 1 y)/(? (! (< 1 x)) 1 y)/(? (! (< 0 0)) 1 y)/(? "
                + "(! (< 0 1)) 1 y)"
                + "/(? (! (< 0 x)) 0 y)/(? (! (< 0 x)) x y)/(? (! (< 0 x)) 1 0)/(? (! (< 0 x)) 1 x)/(? (! (< 0 x)) 1 "
                + "1)");
        C.editsAre(0, "(@ x s)", 2, "0/x/1/(@ 0 s)/(@ 1 s)/(@ x 0)/(@ x x)/(@ x 1)");
    }

    private static void parts() {
        C.about("Term 6", "3: each node in order becomes its first, second, third part, if that is of its type.");
        C.editsAre(0, "x", 3, "");
        C.editsAre(0, "(+ 1 2)", 3, "1/2");
        C.editsAre(0, "(? (< x y) 1 2)", 3, "1/2");
        C.editsAre(0, "(? (! (< x y)) 1 2)", 3, "1/2/(? (< x y) 1 2)");
        C.editsAre(0, "(? (| (< x y) (= x z)) 1 2)", 3, "1/2/(? (< x y) 1 2)/(? (= x z) 1 2)");
        C.editsAre(0, Trees.chain(12), 3, Check.repeat(Trees.chain(11) + "/", 10) + Trees.chain(11));
    }

    private static void pushes() {
        C.about("Term 6", "CODE: 0: PUSHES as CONSTANTS.");
        for (String[] one : NEXT) {
            C.editsAre(1, one[0], 0, one[1]);
        }
        C.editsAre(1, "x", 0, "");
        C.editsAre(1, "x x b1 ~", 0, "");
        C.editsAre(1, "99 j0", 0, "98 j0/89 j0/-99 j0");
    }

    private static void instructionSorts() {
        C.about("Term 6", "1: of each instruction another SORT (rising) that takes and puts as many, of 0 .. 13 "
                + "(PUSH 1; from a PUSH to 1 .. 4).");
        C.editsAre(1, "5", 1, "x/y/z/n");
        C.editsAre(1, "1", 1, "x/y/z/n");
        C.editsAre(1, "x", 1, "1/y/z/n");
        C.editsAre(1, "n", 1, "1/x/y/z");
        C.editsMany(1, "x ~", 1, 4 + 1);
        C.editsAre(1, "x #", 1, "1 #/y #/z #/n #/x ~");
        String[] signs = {"+", "-", "*", "/", "%", "<", "="};
        for (int own = 0; own < 7; own++) {
            BreedingHouse h = new BreedingHouse();
            int b = Check.code(h, "x y " + signs[own]);
            C.is("edits", h.edits(b, 1), 8 + 6);
            int i = 8;
            for (int other = 0; other < 7; other++) {
                if (other != own) {
                    C.is("other sign", Check.print(h, h.edit(b, 1, i)), "x y " + signs[other]);
                    i++;
                }
            }
        }
        C.editsAre(1, "j0 x", 1, "j0 1/j0 y/j0 z/j0 n");
        C.editsMany(1, "x d o", 1, 4);
        C.editsMany(1, "x y w b0", 1, 8);
    }

    private static void leftOut() {
        C.about("Term 6", "2: from each place in order 1, 2, 3 instructions are left out; a j or b that passes over "
                + "all of them passes over so many fewer, one that would come between them isn't SOUND; one that "
                + "leads to the first of them or ahead stays as it is.");
        C.editsAre(1, "x", 2, "");
        C.editsAre(1, "x ~", 2, "x");
        C.editsAre(1, "x ~ ~", 2, "x ~/x/x ~");
        C.editsAre(1, "x ~ ~ ~", 2, "x ~ ~/x ~/x/x ~ ~/x ~/x ~ ~");
        C.editsAre(1, "x ~ ~ ~ ~", 2, "x ~ ~ ~/x ~ ~/x ~/x ~ ~ ~/x ~ ~/x ~/x ~ ~ ~/x ~ ~/x ~ ~ ~");
        C.editsAre(1, "x y +", 2, "x");
        C.editsAre(1, "x x b3 ~ ~ ~ ~", 2, "x ~ ~ ~ ~/x ~ ~ ~/x x b2 ~ ~ ~/x x b1 ~ ~/x x b0 ~/x x b2 ~ ~ ~/x x b1 ~ "
                + "~/x x b2 ~ ~ ~/x x b3 ~ ~ ~");
        C.editsAre(1, "x x b2 ~ j1 ~ ~", 2, "x x b1 j1 ~ ~/x x b0 ~ ~/x x b1 ~ ~ ~/x x b2 ~ j0 ~/x x b2 ~ j1 ~");
    }

    private static void jumpLeftOut() {
        C.about("Term 6", "a j or b that passes over all of them passes over so many fewer");
        BreedingHouse h = new BreedingHouse();
        int b = Check.code(h, "x y b2 ~ j2 5 + ~");
        C.is("the jump itself is left out", ("/" + Check.edits(h, b, 2) + "/").contains("/x y b1 ~ 5 + ~/"), true);
    }

    private static void comeIn() {
        C.about("Term 6", "a j or b that leads behind that place passes over so many more (one that leads to it "
                + "leads ahead of what has come)");
        C.editsAre(1, "x", 3, "x ~/x 1 +/x 1 -/x x +/x d *");
        BreedingHouse h = new BreedingHouse();
        int b = Check.code(h, "x x b1 ~ ~");
        String[] due = {"x ~ x b1 ~ ~", "x 1 + x b1 ~ ~", "x 1 - x b1 ~ ~", "x x + x b1 ~ ~", "x d * x b1 ~ ~",
            "x x ~ b1 ~ ~", "x x 1 + b1 ~ ~", "x x 1 - b1 ~ ~", "x x x + b1 ~ ~", "x x d * b1 ~ ~",
            "x x b2 ~ ~ ~", "x x b3 1 + ~ ~", "x x b3 1 - ~ ~", "x x b3 x + ~ ~", "x x b3 d * ~ ~",
            "x x b1 ~ ~ ~", "x x b1 ~ 1 + ~", "x x b1 ~ 1 - ~", "x x b1 ~ x + ~", "x x b1 ~ d * ~",
            "x x b1 ~ ~ ~", "x x b1 ~ ~ 1 +", "x x b1 ~ ~ 1 -", "x x b1 ~ ~ x +", "x x b1 ~ ~ d *"};
        C.is("edits", h.edits(b, 3), 25);
        for (int i = 0; i < 25; i++) {
            C.is("edit " + i, Check.print(h, h.edit(b, 3, i)), due[i]);
        }
        int j = Check.code(h, "x b2 1 j1 2");
        C.is("j that leads to the end leads ahead of what comes there", Check.print(h, h.edit(j, 3, h.edits(j, 3) - 1)),
                "x b2 1 j1 2 d *");
        int over = Check.code(h, "x x b2 ~ j1 ~ ~");
        C.is("j leads over what has come, b ahead of it",
                ("/" + Check.edits(h, over, 3) + "/").contains("/x x b2 ~ j2 ~ ~ ~/"), true);
        C.is("ahead of where b leads", ("/" + Check.edits(h, j, 3) + "/").contains("/x b3 1 ~ j1 2/"), true);
    }

    private static void codeIsFull() {
        C.about("Term 3", "CODE: 1 to 60 INSTRUCTIONS");
        C.editsMany(1, "x" + Check.repeat(" ~", 57), 3, 58 * 5);
        C.editsMany(1, "x" + Check.repeat(" ~", 58), 3, 59);
        C.editsMany(1, "x" + Check.repeat(" ~", 59), 3, 0);
        C.editsMany(1, "x", 2, 0);
        C.editsMany(1, "x ~", 2, 1);
    }

    private static void pileIsFull() {
        C.about("Term 6", "what is told and leaves it SOUND");
        C.editsMany(1, "x" + Check.repeat(" x", 7) + Check.repeat(" +", 7), 3, 7 * 5 + 1 + 7 * 5);
        C.editsMany(1, "x" + Check.repeat(" x", 6) + Check.repeat(" +", 6), 3, 13 * 5);
    }

    private static void outputs() {
        C.about("Term 6", "MACHINES: 0: of each OUTPUT as of CONSTANTS.");
        for (String[] one : NEXT) {
            C.editsAre(2, one[0] + ":0000", 0, one[1].replace("/", ":0000/") + ":0000");
        }
        C.editsAre(2, "99:0001;0:0000", 0,
                "98:0001;0:0000/89:0001;0:0000/-99:0001;0:0000/99:0001;1:0000/99:0001;-1:0000"
                + "/99:0001;10:0000/99:0001;-10:0000");
    }

    private static void edges() {
        C.about("Term 6", "1: of each state and CLASS each other state, rising.");
        C.editsAre(2, "1:0000", 1, "");
        C.editsAre(2, "1:0101;2:1111", 1,
                "1:1101;2:1111/1:0001;2:1111/1:0111;2:1111/1:0100;2:1111/1:0101;2:0111"
                + "/1:0101;2:1011/1:0101;2:1101/1:0101;2:1110");
        C.editsMany(2, "1:0000" + Check.repeat(";1:5555", 5), 1, 6 * 4 * 5);
        C.editsAre(2, "1:1111;2:0000;3:0000", 1,
                "1:0111;2:0000;3:0000/1:2111;2:0000;3:0000/1:1011;2:0000;3:0000/1:1211;2:0000;3:0000"
                + "/1:1101;2:0000;3:0000/1:1121;2:0000;3:0000/1:1110;2:0000;3:0000/1:1112;2:0000;3:0000"
                + "/1:1111;2:1000;3:0000/1:1111;2:2000;3:0000/1:1111;2:0100;3:0000/1:1111;2:0200;3:0000"
                + "/1:1111;2:0010;3:0000/1:1111;2:0020;3:0000/1:1111;2:0001;3:0000/1:1111;2:0002;3:0000"
                + "/1:1111;2:0000;3:1000/1:1111;2:0000;3:2000/1:1111;2:0000;3:0100/1:1111;2:0000;3:0200"
                + "/1:1111;2:0000;3:0010/1:1111;2:0000;3:0020/1:1111;2:0000;3:0001/1:1111;2:0000;3:0002");
    }

    private static void newStates() {
        C.about("Term 6", "2: (below 6 states) for each state and CLASS in order: a new last state like the one to "
                + "which that EDGE leads, and the EDGE leads there.");
        C.editsAre(2, "7:0000", 2, "7:1000;7:0000/7:0100;7:0000/7:0010;7:0000/7:0001;7:0000");
        C.editsAre(2, "3:0010;4:1111", 2,
                "3:2010;4:1111;3:0010/3:0210;4:1111;3:0010/3:0020;4:1111;4:1111/3:0012;4:1111;3:0010"
                + "/3:0010;4:2111;4:1111/3:0010;4:1211;4:1111/3:0010;4:1121;4:1111/3:0010;4:1112;4:1111");
        C.editsMany(2, "1:0000" + Check.repeat(";1:0000", 4), 2, 20);
        C.editsMany(2, "1:0000" + Check.repeat(";1:0000", 5), 2, 0);
        BreedingHouse h = new BreedingHouse();
        int five = Check.machine(h, "1:0123;2:4444;3:3333;4:2222;-99:0000");
        C.is("the last state's class 3", Check.print(h, h.edit(five, 2, 19)),
                "1:0123;2:4444;3:3333;4:2222;-99:0005;1:0123");
        C.is("it has 6", h.birth(h.births() - 1, 1), 6);
    }

    private static void statesLeftOut() {
        C.about("Term 6", "3: each state but 0 is left out: what led there leads to state 0.");
        C.editsAre(2, "1:0000", 3, "");
        C.editsAre(2, "1:0101;2:1111", 3, "1:0000");
        C.editsAre(2, "1:0122;2:2221;3:1000", 3, "1:0011;3:0000/1:0100;2:0001");
        C.editsAre(2, "1:5432;1:0000;1:0000;1:0000;1:0000;9:5050", 3,
                "1:4321;1:0000;1:0000;1:0000;9:4040/1:4320;1:0000;1:0000;1:0000;9:4040"
                + "/1:4302;1:0000;1:0000;1:0000;9:4040/1:4032;1:0000;1:0000;1:0000;9:4040"
                + "/1:0432;1:0000;1:0000;1:0000;1:0000");
    }

    private static void otherComparators() {
        C.about("Term 6", "NETS: 0: each COMPARATOR becomes each other (i rising, then j).");
        C.editsAre(3, "2:01", 0, "");
        C.editsAre(3, "2:", 0, "");
        C.editsAre(3, "3:02", 0, "3:01/3:12");
        C.editsAre(3, "3:01,12", 0, "3:02,12/3:12,12/3:01,01/3:01,02");
        C.editsAre(3, "4:23", 0, "4:01/4:02/4:03/4:12/4:13");
        C.editsMany(3, "8:01" + Check.repeat(",67", 39), 0, 40 * 27);
    }

    private static void comparatorsLeftOut() {
        C.about("Term 6", "1: each is left out.");
        C.editsAre(3, "2:", 1, "");
        C.editsAre(3, "2:01", 1, "2:");
        C.editsAre(3, "3:01,12,02", 1, "3:12,02/3:01,02/3:01,12");
        C.editsMany(3, "8:01" + Check.repeat(",67", 39), 1, 40);
    }

    private static void newComparators() {
        C.about("Term 6", "2: ahead of each place, the end too, comes each (i rising, then j).");
        C.editsAre(3, "2:", 2, "2:01");
        C.editsAre(3, "3:", 2, "3:01/3:02/3:12");
        C.editsAre(3, "3:02", 2, "3:01,02/3:02,02/3:12,02/3:02,01/3:02,02/3:02,12");
        C.about("Term 4", "NETS: 2 to 8 LINES, at most 40 COMPARATORS of two lines i < j.");
        C.editsMany(3, "2:01" + Check.repeat(",01", 37), 2, 39);
        C.editsMany(3, "2:01" + Check.repeat(",01", 38), 2, 40);
        C.editsMany(3, "2:01" + Check.repeat(",01", 39), 2, 0);
        C.editsMany(3, "8:", 2, 28);
    }

    private static void exchanged() {
        C.about("Term 6", "3: each but the last is exchanged with the next one, unless both are the same.");
        C.editsAre(3, "2:", 3, "");
        C.editsAre(3, "2:01", 3, "");
        C.editsAre(3, "2:01,01", 3, "");
        C.editsAre(3, "3:01,02", 3, "3:02,01");
        C.editsAre(3, "3:01,12", 3, "3:12,01");
        C.editsAre(3, "3:02,12", 3, "3:12,02");
        C.editsAre(3, "3:01,12,12,01", 3, "3:12,01,12,01/3:01,12,01,12");
    }

    private static void pairsOfTrees() {
        C.about("Term 2", "it has at most 60 NODES, each at most 12 deep (the whole is 1 deep)");
        C.pairsMany(0, "x", Trees.ofSize(60), 60);
        C.pairsMany(0, Trees.ofSize(60), "x", 60);
        // For the whole of 60 nodes 2 can come, and for each node but the leaves, of which it has 30; for leaves one.
        C.pairsMany(0, Trees.ofSize(60), "(~ x)", 60 + 30);
        // Of 59 nodes 30 are leaves: for each node 1 or 2 can come, and 3 for all but these.
        C.pairsMany(0, Trees.ofSize(59), "(~ (~ x))", 59 + 59 + 29);
        C.pairsMany(0, Trees.chain(12), "(~ x)", 12 + 11);
        C.pairsMany(0, Trees.chain(11), "(~ x)", 11 + 11);
        C.pairsMany(0, Trees.chain(12), Trees.chain(12), 12 * 13 / 2);
        C.pairsMany(0, "(? (< x y) 1 2)", "x", 5);
        C.pairsMany(0, "(? (< x y) 1 2)", "(? (! (< x y)) 1 2)", 5 * 5 + 2);
    }

    private static void pairsOfFolds() {
        C.about("Term 2", "s and e stand in second parts of FOLDS alone, no FOLD stands in the second part of one");
        C.pairsMany(0, "x", "(@ x s)", 2);
        C.pairsMany(0, "(@ x y)", "(@ x s)", 2 + 2 + 2);
        C.pairsMany(0, "(@ x y)", "(@ x (+ s 1))", 3 + 3 + 4);
        C.pairsMany(0, "(@ x (~ y))", "(@ 1 (~ e))", 2 + 2 + 3 + 3);
    }

    private static void pairsOfCode() {
        C.about("Term 6", "CODE: i, j, each 0 .. its SIZE: the first i instructions of the first, those of the "
                + "second from j on (each keeps its distance; 1 to 60).");
        C.pairsMany(1, "x", "y", 2);
        C.pairsMany(1, "x ~", "y ~", 1 + 4);
        C.pairsMany(1, "x" + Check.repeat(" ~", 59), "y", 1 + 60);
        // From 1 .. 60 of the first and 0 or 1 of the second, but 60 and 1.
        C.pairsMany(1, "x" + Check.repeat(" ~", 59), "y ~", 1 + 2 * 60 - 1);
        C.pairsMany(1, "x" + Check.repeat(" ~", 59), "y" + Check.repeat(" ~", 59), 1 + 60 * 61 / 2);
        // "x x b1" would lead behind the end.
        C.pairsMany(1, "x x b1 ~", "y", 1 + 1 + 1);
        BreedingHouse h = new BreedingHouse();
        int a = Check.code(h, "x x b1 ~");
        int b = Check.code(h, "y ~ ~ ~");
        // The branch needs one behind it: i 3 with j 1 .. 3, not with 4.
        C.is("pairs", h.pairs(a, b), 1 + 4 + 3 + 4);
        C.is("it keeps its distance", Check.print(h, h.cross(a, b, seedOf(12, 5))), "x x b1 ~ ~ ~");
    }

    /** A seed whose first draw of n is a number. */
    private static long seedOf(int n, int number) {
        long seed = 0;
        while (new Draws(seed).draw(n) != number) {
            seed++;
        }
        return seed;
    }

    private static void pairsOfMachines() {
        C.about("Term 6", "MACHINES of as many states: masks 1, 2, .. with a bit for each state, but all bits: state "
                + "k with all its EDGES from the second if bit k is 1.");
        for (int states = 1; states <= 6; states++) {
            String text = "1:0000" + Check.repeat(";1:0000", states - 1);
            C.pairsMany(2, text, text, (1 << states) - 2);
            if (states < 6) {
                C.pairsMany(2, text, text + ";1:0000", 0);
                C.pairsMany(2, text + ";1:0000", text, 0);
            }
        }
        BreedingHouse h = new BreedingHouse();
        int a = Check.machine(h, "1:0000;2:0000;3:0000");
        int b = Check.machine(h, "4:1111;5:2222;6:1212");
        C.is("mask 1", Check.print(h, h.cross(a, b, seedOf(6, 0))), "4:1111;2:0000;3:0000");
        C.is("mask 6, the last", Check.print(h, h.cross(a, b, seedOf(6, 5))), "1:0000;5:2222;6:1212");
    }

    private static void pairsOfNets() {
        C.about("Term 6", "NETS of as many lines: i, j as for CODE (at most 40).");
        C.pairsMany(3, "2:", "2:", 1);
        C.pairsMany(3, "2:01", "2:", 2);
        C.pairsMany(3, "2:01", "2:01", 4);
        C.pairsMany(3, "2:", "3:", 0);
        C.pairsMany(3, "8:01", "7:01", 0);
        String forty = "2:01" + Check.repeat(",01", 39);
        C.pairsMany(3, forty, "2:", 41);
        C.pairsMany(3, "2:", forty, 41);
        C.pairsMany(3, forty, "2:01", 41 * 2 - 1);
        C.pairsMany(3, "2:01", forty, 41 * 2 - 1);
        C.pairsMany(3, forty, forty, 41 * 42 / 2);
    }

    private static void pairsByTurns() {
        C.about("Promise 32", "How many PAIRS two programs have");
        BreedingHouse h = new BreedingHouse();
        int code = Check.code(h, "x y + z w -");
        int net = Check.net(h, "3:01,12,02,01,12,02");
        int tree = Check.tree(h, "(? (< x y) 1 2)");
        for (int k = 0; k < 3; k++) {
            // Heights 0, 1, 2, 1, 2, 2, 1: one of 0, three of 1, three of 2.
            C.is("code", h.pairs(code, code), 1 + 9 + 9);
            C.is("nets", h.pairs(net, net), 49);
            C.is("trees", h.pairs(tree, tree), 26);
            C.is("two kinds", h.pairs(tree, code), 0);
        }
    }

    private static void noPairs() {
        C.about("Promise 32", "How many PAIRS two programs have (0 if there can be none).");
        BreedingHouse h = new BreedingHouse();
        String[] texts = {"x", "x", "1:0000", "2:"};
        for (int kind = 0; kind < 4; kind++) {
            Check.read(h, kind, texts[kind]);
        }
        int[] own = {1, 2, 0, 1};
        for (int a = 0; a < 4; a++) {
            for (int b = 0; b < 4; b++) {
                C.is("kinds " + a + " and " + b, h.pairs(a, b), a == b ? own[a] : 0);
            }
        }
        for (int none : new int[] {-1, 4, LEAST, MOST}) {
            C.fails("a is " + none, Check.INDEX, () -> h.pairs(none, 0));
            C.fails("b is " + none, Check.INDEX, () -> h.pairs(0, none));
        }
    }

    private static void anotherHow() {
        C.about("Promise 29", "IllegalArgumentException: how isn't 0 .. 3.");
        BreedingHouse h = new BreedingHouse();
        int[] births = {Check.tree(h, "x"), Check.code(h, "x"), Check.machine(h, "1:0000"), Check.net(h, "2:")};
        for (int b : births) {
            for (int how : new int[] {-1, 4, 5, LEAST, MOST}) {
                C.fails("edits by " + how, Check.ARGUMENT, () -> h.edits(b, how));
            }
            for (int how = 0; how < 4; how++) {
                C.is("edits by " + how, h.edits(b, how) >= 0, true);
            }
        }
        for (int none : new int[] {-1, 4, LEAST, MOST}) {
            C.fails("edits of " + none, Check.INDEX, () -> h.edits(none, 0));
        }
    }

    private static void anotherHowOfEdit() {
        C.about("Promise 30", "IllegalArgumentException: how isn't 0 .. 3.");
        BreedingHouse h = new BreedingHouse();
        int[] births = {Check.tree(h, "(+ 1 2)"), Check.code(h, "x ~"), Check.machine(h, "1:0001;2:0000"), Check.net(h,
                "3:01,12")};
        for (int b : births) {
            for (int how : new int[] {-1, 4, 5, LEAST, MOST}) {
                C.fails("edit by " + how, Check.ARGUMENT, () -> h.edit(b, how, 0));
            }
        }
        C.is("none was made", h.births(), 4);
        for (int b : births) {
            for (int how = b == 1 ? 1 : 0; how < 4; how++) {
                C.is("edit by " + how, h.birth(h.edit(b, how, 0), 5), how);
            }
        }
        for (int none : new int[] {-1, 99, LEAST, MOST}) {
            C.fails("edit of " + none, Check.INDEX, () -> h.edit(none, 0, 0));
        }
    }

    private static void noSuchEdit() {
        C.about("Promise 30", "IndexOutOfBoundsException: also no such EDIT (told behind another HOW).");
        BreedingHouse h = new BreedingHouse();
        int t = Check.tree(h, "(+ x 5)");
        C.is("the first", Check.print(h, h.edit(t, 0, 0)), "(+ x 6)");
        C.is("the last", Check.print(h, h.edit(t, 0, 4)), "(+ x -5)");
        for (int i : new int[] {-1, 5, LEAST, MOST}) {
            C.fails("edit " + i, Check.INDEX, () -> h.edit(t, 0, i));
            C.fails("another how is told ahead of edit " + i, Check.ARGUMENT, () -> h.edit(t, 4, i));
            C.fails("another how is told ahead of edit " + i, Check.ARGUMENT, () -> h.edit(t, -1, i));
        }
        int x = Check.tree(h, "x");
        C.fails("there are none", Check.INDEX, () -> h.edit(x, 0, 0));
        C.fails("there are none", Check.INDEX, () -> h.edit(x, 3, 0));
        C.is("none was made", h.births(), 4);
    }

    private static void drawnEdits() {
        C.about("Promise 31", "By the STREAM of a seed: the EDIT that is a DRAW of how many there are");
        BreedingHouse h = new BreedingHouse();
        int t = Check.tree(h, "(+ x 5)");
        for (long seed : new long[] {0, 1, -1, Long.MIN_VALUE, Long.MAX_VALUE, 1L << 33, -6364136223846793005L}) {
            int due = new Draws(seed).draw(5);
            int b = h.change(t, 0, seed);
            C.is("seed " + seed, h.birth(b, 6), due);
            C.is("that edit", h.same(b, h.edit(t, 0, due)), true);
        }
        C.is("one alone", h.birth(h.change(Check.code(h, "x ~"), 2, 99), 6), 0);
    }

    private static void withoutEdits() {
        C.about("Promise 31", "(without any the child is the same)");
        BreedingHouse h = new BreedingHouse();
        int[][] none = {{Check.tree(h, "x"), 0}, {Check.tree(h, "x"), 3}, {Check.code(h, "x"), 2}, {Check.code(h, "x"),
                0},
            {Check.machine(h, "1:0000"), 1}, {Check.machine(h, "1:0000"), 3}, {Check.machine(h, "1:0000"
            + Check.repeat(";1:0000", 5)), 2},
            {Check.net(h, "2:"), 0}, {Check.net(h, "2:"), 1}, {Check.net(h, "2:01"), 0}, {Check.net(h, "2:"), 3},
            {Check.net(h, "2:01" + Check.repeat(",01", 39)), 2}, {Check.code(h, "x" + Check.repeat(" ~", 59)), 3}};
        for (int[] one : none) {
            int before = h.births();
            int b = h.change(one[0], one[1], 7);
            C.is("a birth", b, before);
            C.is("the same", h.same(b, one[0]), true);
            C.is("its parent", h.birth(b, 3), one[0]);
        }
    }

    private static void howOfChange() {
        C.about("Promise 31", "IllegalArgumentException: how isn't 0 .. 3, nor 4 of a TREE.");
        BreedingHouse h = new BreedingHouse();
        int[] births = {Check.tree(h, "x"), Check.code(h, "x"), Check.machine(h, "1:0000"), Check.net(h, "2:")};
        for (int b : births) {
            for (int how : new int[] {-1, 5, LEAST, MOST}) {
                C.fails("change by " + how, Check.ARGUMENT, () -> h.change(b, how, 0));
            }
            if (b > 0) {
                C.fails("4 of kind " + b, Check.ARGUMENT, () -> h.change(b, 4, 0));
            }
            C.is("how 3", h.birth(h.change(b, 3, 0), 5), 3);
        }
        C.is("4 of a tree", h.birth(h.change(births[0], 4, 0), 5), 4);
        for (int none : new int[] {-1, 99, LEAST, MOST}) {
            C.fails("change of " + none, Check.INDEX, () -> h.change(none, 0, 0));
        }
    }

    private static void drawnPairs() {
        C.about("Promise 33", "By the STREAM of a seed: the PAIR that is a DRAW of how many there are");
        BreedingHouse h = new BreedingHouse();
        int a = Check.tree(h, "(+ x 1)");
        int b = Check.tree(h, "(~ y)");
        String[] due = {"(~ y)", "y", "(+ (~ y) 1)", "(+ y 1)", "(+ x (~ y))", "(+ x y)"};
        for (int number = 0; number < 6; number++) {
            int child = h.cross(a, b, seedOf(6, number));
            C.is("the number", h.birth(child, 6), number);
            C.is("the pair", Check.print(h, child), due[number]);
        }
        for (long seed : new long[] {0, -1, Long.MIN_VALUE, Long.MAX_VALUE}) {
            C.is("seed " + seed, h.birth(h.cross(a, b, seed), 6), new Draws(seed).draw(6));
        }
    }

    private static void withoutPairs() {
        C.about("Promise 33", "(without any the child is the same as a)");
        BreedingHouse h = new BreedingHouse();
        int one = Check.machine(h, "1:0000");
        int other = Check.machine(h, "2:0000");
        int two = Check.machine(h, "3:1111;4:0000");
        int net = Check.net(h, "3:01");
        int lines = Check.net(h, "4:01");
        int[][] pairs = {{one, other}, {one, two}, {two, one}, {net, lines}, {lines, net}};
        for (int[] pair : pairs) {
            int child = h.cross(pair[0], pair[1], 3);
            C.is("as the first", h.same(child, pair[0]), true);
            C.is("first parent", h.birth(child, 3), pair[0]);
            C.is("second parent", h.birth(child, 4), pair[1]);
        }
    }

    private static void twoKinds() {
        C.about("Promise 33", "IllegalArgumentException: they are of two KINDS.");
        BreedingHouse h = new BreedingHouse();
        String[] texts = {"x", "x", "1:0000", "2:"};
        for (int kind = 0; kind < 4; kind++) {
            Check.read(h, kind, texts[kind]);
        }
        for (int k = 0; k < 16; k++) {
            int a = k / 4;
            int b = k % 4;
            if (a != b) {
                C.fails("kinds " + a + " and " + b, Check.ARGUMENT, () -> h.cross(a, b, 0));
            } else {
                C.is("one kind", h.cross(a, b, 0) >= 4, true);
            }
        }
        for (int none : new int[] {-1, 99, LEAST, MOST}) {
            C.fails("a is " + none, Check.INDEX, () -> h.cross(none, 0, 0));
            C.fails("b is " + none, Check.INDEX, () -> h.cross(0, none, 0));
        }
    }

    /** A seed whose first draws of so many nodes and of 4 are a node and a size less 1. */
    private static long seedFor(int nodes, int node, int sizeLessOne) {
        for (long seed = 0; seed < 100000; seed++) {
            Draws draws = new Draws(seed);
            if (draws.draw(nodes) == node && draws.draw(4) == sizeLessOne) {
                return seed;
            }
        }
        return -1;
    }

    private static Draws behind(long seed) {
        Draws draws = new Draws(seed);
        draws.next();
        draws.next();
        return draws;
    }

    private static void regrownTruths() {
        C.about("Term 6", "of the TREES of that SIZE, or the next greater one that has any, of the node's type");
        BreedingHouse h = new BreedingHouse();
        int t = Check.tree(h, "(? (= x y) 1 2)");
        for (int less = 0; less < 3; less++) {
            long seed = seedFor(6, 1, less);
            long place = behind(seed).wide(2 * 14 * 14);
            int child = h.change(t, 4, seed);
            C.is("6 nodes", h.birth(child, 1), 6);
            C.is("< or =", h.item(child, 1, 0), place < 196 ? 15 : 16);
            C.is("its second leaf", place % 14 < 10 ? h.item(child, 3, 1) : h.item(child, 3, 0), place % 14 < 10
                    ? place % 14 : place % 14 - 9);
        }
        long seed = seedFor(6, 1, 3);
        // Of size 4: ! of 392 truths, then < and = of 14 and 28, or of 28 and 14.
        long place = behind(seed).wide(392 + 2 * 2 * 14 * 28);
        int child = h.change(t, 4, seed);
        C.is("7 nodes", h.birth(child, 1), 7);
        C.is("!, < or =", h.item(child, 1, 0), place < 392 ? 9 : place < 392 + 784 ? 15 : 16);
    }

    private static void regrownInFolds() {
        C.about("Term 6", "(and with s and e, but no FOLD, if it stands in the second part of a FOLD)");
        BreedingHouse h = new BreedingHouse();
        int f = Check.tree(h, "(@ x 0)");
        long seed = seedFor(3, 2, 0);
        int leaf = h.change(f, 4, seed);
        long place = behind(seed).wide(16);
        C.is("one of 16 leaves", place < 10 ? h.item(leaf, 2, 1) : 9 + h.item(leaf, 2, 0), place);
        seed = seedFor(3, 2, 2);
        // Of size 3: ~ and # of 32, and five signs of 16 and 16; no fold.
        place = behind(seed).wide(2 * 32 + 5 * 256);
        int child = h.change(f, 4, seed);
        C.is("its sign", h.item(child, 2, 0), place < 32 ? 7 : place < 64 ? 8 : 10 + (place - 64) / 256);
        C.is("what stands in the first part is free of it", h.birth(h.change(f, 4, seedFor(3, 1, 0)), 1), 3);
        seed = seedFor(3, 1, 2);
        C.is("as the trees of the order", Check.print(h, h.change(f, 4, seed)),
                "(@ " + Check.print(h, h.tree(3, behind(seed).wide(1260))) + " 0)");
    }

    private static void regrownTooDeep() {
        C.about("Term 6", "the child is the same as the parent if that wouldn't be SOUND");
        BreedingHouse h = new BreedingHouse();
        int deep = Check.tree(h, Trees.chain(12));
        long seed = seedFor(12, 11, 1);
        C.is("13 deep", h.same(deep, h.change(deep, 4, seed)), true);
        seed = seedFor(12, 10, 1);
        String two = Check.print(h, h.tree(2, behind(seed).wide(28)));
        C.is("12 deep", Check.print(h, h.change(deep, 4, seed)), Check.repeat("(~ ", 10) + two + Check.repeat(")", 10));
        seed = seedFor(12, 11, 0);
        String one = Check.print(h, h.tree(1, behind(seed).wide(14)));
        C.is("12 deep", Check.print(h, h.change(deep, 4, seed)), Check.repeat("(~ ", 11) + one + Check.repeat(")", 11));
    }

    private static void regrownTooGreat() {
        C.about("Term 6", "the child is the same as the parent if that wouldn't be SOUND");
        BreedingHouse h = new BreedingHouse();
        int full = Check.tree(h, Trees.ofSize(60));
        int less = Check.tree(h, Trees.ofSize(59));
        long seed = seedFor(60, 59, 1);
        C.is("61 nodes", h.same(full, h.change(full, 4, seed)), true);
        seed = seedFor(60, 59, 0);
        String one = Check.print(h, h.tree(1, behind(seed).wide(14)));
        C.is("60 nodes", Check.print(h, h.change(full, 4, seed)), Trees.ofSize(60).replaceAll("x(\\)+)$", one + "$1"));
        seed = seedFor(59, 58, 1);
        C.is("60 nodes", h.birth(h.change(less, 4, seed), 1), 60);
        seed = seedFor(59, 58, 2);
        C.is("61 nodes", h.same(less, h.change(less, 4, seed)), true);
    }
}
