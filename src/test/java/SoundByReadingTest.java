import java.util.ArrayList;
import java.util.List;

/** Edits and pairs of trees and code, made here as texts by the words of Term 6: those that can be read are SOUND. */
public final class SoundByReadingTest {
    private static final Check C = new Check();
    private static final String[] SIGNS = {"", "x", "y", "z", "n", "s", "e", "~", "#", "!", "+", "-", "*", "/", "%",
            "<",
        "=", "&", "|", "@", "?"};
    private static final String[] CODE = {"", "x", "y", "z", "n", "~", "#", "+", "-", "*", "/", "%", "<", "=", "d", "w",
        "o", "j", "b"};
    private static final String[] COME = {"~", "1 +", "1 -", "x +", "d *"};
    private static final String[] TREES = {"(@ (+ x (@ 1 s)) (? (< s e) (* e 2) (- s 1)))",
            "(? (! (& (< x 1) (= y (@ 2 e)))) (~ z) (# n))",
        "(@ 1 (? (| (< 1 2) (= x y)) 3 (+ 4 (~ e))))", "(~ (~ (~ (~ (~ (~ (~ (~ (~ (+ x (~ 1)))))))))))"};
    private static final String[] CODES = {"x y b2 ~ j2 5 + ~", "x 3 < b4 y 4 * j1 7",
            "x x x x x x x x + + + + d * + + +",
        "1 x b4 ~ y + j1 ~ z b1 ~ 2 w - # n % 7 o", "x y < b5 1 z b1 ~ j4 2 j0 3 * ~"};
    private static BreedingHouse scratch = new BreedingHouse();

    public static void main(String[] args) {
        for (String text : TREES) {
            treeEdits(text);
        }
        for (String text : CODES) {
            codeEdits(text);
        }
        for (int k = 0; k < 24; k++) {
            treeEdits(drawn(0, k));
            codeEdits(drawn(1, k));
        }
        pairs();
        C.end();
    }

    /** The text of a program that has come of some changes. */
    private static String drawn(int kind, int seed) {
        BreedingHouse h = new BreedingHouse();
        int b = h.populate(0, kind, 1, 4 + seed % 6, seed);
        for (int k = 0; k < 6; k++) {
            b = h.change(b, kind == 0 && k % 2 == 0 ? 4 : k % 4, 31L * seed + k);
        }
        return Check.print(h, b);
    }

    private static boolean sound(int kind, String text) {
        if (text.isEmpty() || text.length() > 240) {
            return false;
        }
        if (scratch.births() >= 599) {
            scratch = new BreedingHouse();
        }
        return Check.read(scratch, kind, text) >= 0;
    }

    private static void keep(List<String> all, int kind, String text) {
        if (sound(kind, text)) {
            all.add(text);
        }
    }

    private static void editsAre(int kind, String text, int how, List<String> due) {
        BreedingHouse h = new BreedingHouse();
        int b = Check.read(h, kind, text);
        C.is("edits " + how + " of " + text, h.edits(b, how), due.size());
        for (int i = 0; i < due.size(); i++) {
            if (h.births() == 600) {
                h = new BreedingHouse();
                b = Check.read(h, kind, text);
            }
            C.is("edit " + i + " by " + how + " of " + text, Check.print(h, h.edit(b, how, i)), due.get(i));
        }
    }

    /** Where a node's text ends. */
    private static int end(String text, int from) {
        int at = from;
        for (int open = 0; at == from || open > 0 || at < text.length() && " )".indexOf(text.charAt(at)) < 0; at++) {
            open += text.charAt(at) == '(' ? 1 : text.charAt(at) == ')' ? -1 : 0;
        }
        return at;
    }

    private static String node(String text, int from) {
        return text.substring(from, end(text, from));
    }

    private static boolean truth(String node) {
        return node.startsWith("(") && "!<=&|".indexOf(node.charAt(1)) >= 0;
    }

    private static String with(String text, int from, String other) {
        return text.substring(0, from) + other + text.substring(end(text, from));
    }

    private static List<String> partsOf(String node) {
        List<String> parts = new ArrayList<>();
        for (int at = 3; node.startsWith("(") && at < node.length(); at = end(node, at) + 1) {
            parts.add(node(node, at));
        }
        return parts;
    }

    private static void treeEdits(String text) {
        C.about("Term 6", "what is told and leaves it SOUND");
        List<String> sorts = new ArrayList<>();
        List<String> leaves = new ArrayList<>();
        List<String> parts = new ArrayList<>();
        for (int n = 0; Trees.nodeAt(text, n) >= 0; n++) {
            int at = Trees.nodeAt(text, n);
            String node = node(text, at);
            otherSorts(sorts, text, at, node);
            for (String leaf : new String[] {"0", "x", "1"}) {
                if (!truth(node) && !node.equals(leaf)) {
                    keep(leaves, 0, with(text, at, leaf));
                }
            }
            for (String part : partsOf(node)) {
                if (truth(part) == truth(node)) {
                    keep(parts, 0, with(text, at, part));
                }
            }
        }
        editsAre(0, text, 1, sorts);
        editsAre(0, text, 2, leaves);
        editsAre(0, text, 3, parts);
    }

    private static void otherSorts(List<String> all, String text, int at, String node) {
        boolean branching = node.startsWith("(");
        boolean constant = !branching && !Character.isLetter(node.charAt(0));
        for (int sort = 0; sort < 21; sort++) {
            if (branching && sort >= 7 && alike(node.charAt(1), SIGNS[sort].charAt(0))) {
                keep(all, 0, with(text, at, "(" + SIGNS[sort] + node.substring(2)));
            } else if (!branching && sort < 7 && !(constant ? sort == 0 : node.equals(SIGNS[sort]))) {
                keep(all, 0, with(text, at, sort == 0 ? "1" : SIGNS[sort]));
            }
        }
    }

    /** Whether two signs have the same type and parts of the same types, and are two. */
    private static boolean alike(char a, char b) {
        for (String family : new String[] {"~#", "+-*/%@", "<=", "&|"}) {
            if (family.indexOf(a) >= 0 && family.indexOf(b) >= 0) {
                return a != b;
            }
        }
        return false;
    }

    private static void codeEdits(String text) {
        C.about("Term 6", "what is told and leaves it SOUND");
        List<String> base = List.of(text.split(" "));
        List<String> sorts = new ArrayList<>();
        List<String> fewer = new ArrayList<>();
        List<String> more = new ArrayList<>();
        for (int place = 0; place <= base.size(); place++) {
            for (int many = 1; many <= 3 && place + many <= base.size(); many++) {
                List<String> left = leftOut(base, place, many);
                if (left != null) {
                    keep(fewer, 1, String.join(" ", left));
                }
            }
            for (String come : COME) {
                keep(more, 1, String.join(" ", comeIn(base, place, List.of(come.split(" ")))));
            }
            if (place < base.size()) {
                otherInstructions(sorts, base, place);
            }
        }
        editsAre(1, text, 1, sorts);
        editsAre(1, text, 2, fewer);
        editsAre(1, text, 3, more);
    }

    private static void otherInstructions(List<String> all, List<String> base, int place) {
        String old = base.get(place);
        int sort = 0;
        for (int k = 1; k < 17; k++) {
            sort = old.equals(CODE[k]) ? k : sort;
        }
        if (old.charAt(0) == 'j' || old.charAt(0) == 'b') {
            return;
        }
        int[] from = {0, 5, 7, 14};
        for (int family = 0; family < 3; family++) {
            for (int other = from[family]; other < from[family + 1]; other++) {
                if (sort >= from[family] && sort < from[family + 1] && other != sort) {
                    List<String> next = new ArrayList<>(base);
                    next.set(place, other == 0 ? "1" : CODE[other]);
                    keep(all, 1, String.join(" ", next));
                }
            }
        }
    }

    /** Where a j or b leads to, -1 for others. */
    private static int leads(List<String> base, int i) {
        char c = base.get(i).charAt(0);
        return c == 'j' || c == 'b' ? i + 1 + Integer.parseInt(base.get(i).substring(1)) : -1;
    }

    private static String longer(String jump, int by) {
        return jump.charAt(0) + Integer.toString(Integer.parseInt(jump.substring(1)) + by);
    }

    private static List<String> leftOut(List<String> base, int place, int many) {
        List<String> left = new ArrayList<>();
        for (int i = 0; i < base.size(); i++) {
            int to = leads(base, i);
            if (i < place && to > place && to < place + many) {
                return null;
            }
            if (i < place || i >= place + many) {
                left.add(i < place && to >= place + many ? longer(base.get(i), -many) : base.get(i));
            }
        }
        return left;
    }

    private static List<String> comeIn(List<String> base, int place, List<String> come) {
        List<String> all = new ArrayList<>();
        for (int i = 0; i < base.size(); i++) {
            if (i == place) {
                all.addAll(come);
            }
            all.add(i < place && leads(base, i) > place ? longer(base.get(i), come.size()) : base.get(i));
        }
        if (place == base.size()) {
            all.addAll(come);
        }
        return all;
    }

    private static void pairs() {
        C.about("Term 6", "Those alone that are SOUND.");
        for (int k = 0; k < 12; k++) {
            pairsOfTrees(k < TREES.length ? TREES[k] : drawn(0, k), k % 2 == 0 ? TREES[k / 2 % TREES.length] : drawn(0,
                    3 * k));
            pairsOfCode(k < CODES.length ? CODES[k] : drawn(1, k), k % 2 == 0 ? CODES[k / 2 % CODES.length] : drawn(1,
                    3 * k));
        }
    }

    private static void pairsOfTrees(String a, String b) {
        List<String> due = new ArrayList<>();
        for (int i = 0; Trees.nodeAt(a, i) >= 0; i++) {
            for (int j = 0; Trees.nodeAt(b, j) >= 0; j++) {
                String comes = node(b, Trees.nodeAt(b, j));
                if (truth(comes) == truth(node(a, Trees.nodeAt(a, i)))) {
                    keep(due, 0, with(a, Trees.nodeAt(a, i), comes));
                }
            }
        }
        pairsAre(0, a, b, due);
    }

    private static void pairsOfCode(String a, String b) {
        List<String> due = new ArrayList<>();
        List<String> first = List.of(a.split(" "));
        List<String> second = List.of(b.split(" "));
        for (int i = 0; i <= first.size(); i++) {
            for (int j = 0; j <= second.size(); j++) {
                List<String> both = new ArrayList<>(first.subList(0, i));
                both.addAll(second.subList(j, second.size()));
                keep(due, 1, String.join(" ", both));
            }
        }
        pairsAre(1, a, b, due);
    }

    private static void pairsAre(int kind, String a, String b, List<String> due) {
        BreedingHouse h = new BreedingHouse();
        int p = Check.read(h, kind, a);
        int q = Check.read(h, kind, b);
        C.is("pairs of " + a + " and " + b, h.pairs(p, q), due.size());
        for (int k = 0; k < 100 && !due.isEmpty(); k++) {
            long seed = k * 0x9E3779B97F4A7C15L;
            int number = new Draws(seed).draw(due.size());
            C.is("pair " + number + " of " + a + " and " + b, Check.print(h, h.cross(p, q, seed)), due.get(number));
        }
    }
}
