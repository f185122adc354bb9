import java.util.ArrayList;
import java.util.List;

/** Promises 34 to 43: populate, members, member, breed, move, best, front, odds, distance, novelty. */
public final class IslandsTest {
    private static final Check C = new Check();

    public static void main(String[] args) {
        populations();
        wrongPopulations();
        for (int choice = 0; choice <= 2; choice++) {
            for (int kind = 0; kind < 4; kind++) {
                breeding(kind, choice, 30);
            }
            breeding(0, choice, 100);
            breeding(1, choice, 0);
        }
        wrongBreeding();
        eliteCounts();
        moves();
        fronts();
        odds();
        distances();
        C.end();
    }

    private static void populations() {
        BreedingHouse h = new BreedingHouse();
        Draws draws = new Draws(12345);
        C.is("the first one's birth", h.populate(1, 0, 5, 6, 12345), 0);
        C.is("members", h.members(1), 5);
        for (int k = 0; k < 5; k++) {
            C.is("member", h.member(1, k), k);
            C.is("place", h.place(k), draws.wide(h.trees(6)));
            C.is("way", h.birth(k, 2), 2);
        }
        codes(h);
        draws = new Draws(-1);
        int m = h.populate(1, 2, 3, 5, -1);
        for (int k = 0; k < 15; k++) {
            C.is("output", h.item(m + k / 5, k % 5, 0), draws.draw(10));
            for (int c = 0; c < 4; c++) {
                C.is("edge", h.item(m + k / 5, k % 5, 1 + c), draws.draw(5));
            }
        }
        C.is("only the new ones", h.members(1), 3);
        draws = new Draws(8);
        int n = h.populate(0, 3, 4, 6, 8);
        C.is("lines", h.birth(n, 7), 6);
        C.is("comparators", h.birth(n, 1), 12);
        for (int k = 0; k < 48; k++) {
            int i = draws.draw(5);
            C.is("i", h.item(n + k / 12, k % 12, 0), i);
            C.is("j", h.item(n + k / 12, k % 12, 1), i + 1 + draws.draw(5 - i));
        }
    }

    private static void codes(BreedingHouse h) {
        Draws draws = new Draws(77);
        int c = h.populate(2, 1, 16, 7, 77);
        for (int k = 0; k < 16; k++) {
            int code = h.compile(h.tree(7, draws.wide(h.trees(7))), 1);
            C.is("kind", h.birth(c + k, 0), 1);
            if (code >= 0) {
                C.is("a tree's code", h.same(c + k, code), true);
            } else {
                C.is("push of 0", Check.print(h, c + k), "0");
            }
        }
    }

    private static void wrongPopulations() {
        BreedingHouse h = new BreedingHouse();
        C.fails("island 4", Check.INDEX, () -> h.populate(4, 9, 1, 1, 0));
        C.fails("island -1", Check.INDEX, () -> h.populate(-1, 0, 1, 1, 0));
        C.fails("kind", Check.ARGUMENT, () -> h.populate(0, 4, 1, 1, 0));
        C.fails("kind", Check.ARGUMENT, () -> h.populate(0, -1, 1, 1, 0));
        C.fails("n 0", Check.ARGUMENT, () -> h.populate(0, 0, 0, 1, 0));
        C.fails("n 17", Check.ARGUMENT, () -> h.populate(0, 0, 17, 1, 0));
        int[] least = {1, 1, 1, 2};
        int[] most = {9, 9, 6, 8};
        for (int kind = 0; kind < 4; kind++) {
            int k = kind;
            C.fails("too small", Check.ARGUMENT, () -> h.populate(0, k, 1, least[k] - 1, 0));
            C.fails("too great", Check.ARGUMENT, () -> h.populate(0, k, 1, most[k] + 1, 0));
            h.populate(0, k, 1, least[k], 0);
            h.populate(0, k, 1, most[k], 0);
        }
        C.fails("members of none", Check.INDEX, () -> h.members(4));
        C.fails("members of none", Check.INDEX, () -> h.members(-1));
        C.fails("member 1", Check.INDEX, () -> h.member(0, 1));
        C.fails("member -1", Check.INDEX, () -> h.member(0, -1));
        C.fails("member of none", Check.INDEX, () -> h.member(9, 0));
        Check.fill(h, 590);
        int member = h.member(0, 0);
        C.fails("no room for 11", Check.STATE, () -> h.populate(0, 0, 11, 1, 0));
        C.is("nothing has changed", h.members(0), 1);
        C.is("nothing has changed", h.member(0, 0), member);
        C.is("room for 10", h.populate(0, 0, 10, 1, 0), 590);
    }

    private static void cases(BreedingHouse h) {
        int[][] rows = {{}, {3}, {4, -1}, {2, 5, 7}, {9, 1}, {6}};
        for (int k = 0; k < 6; k++) {
            Check.put(h, rows[k]);
            h.add(k, 2 * k - 3, 5 - k, k * k - 4, 1 + k % 3, k == 3);
        }
    }

    /** The members of an island in order, the best first. */
    private static List<Integer> inOrder(BreedingHouse h, List<Integer> members) {
        List<Integer> order = new ArrayList<>(members);
        order.sort((a, b) -> h.compare(a, b));
        return order;
    }

    /** Breeds on one island, and by hand with a second house that is told the same. */
    private static void breeding(int kind, int choice, int crossing) {
        BreedingHouse h = new BreedingHouse();
        BreedingHouse hand = new BreedingHouse();
        int size = 3 + kind;
        long seed = 1000L * kind + choice;
        for (BreedingHouse one : new BreedingHouse[] {h, hand}) {
            cases(one);
            one.set(4, choice);
            one.set(3, crossing);
            one.set(1, 2);
            one.populate(0, kind, 9, size, seed);
        }
        Draws draws = new Draws(seed);
        for (int k = 0; k < 9 * drawsOf(kind, size); k++) {
            draws.next();
        }
        ByHand by = new ByHand(hand, draws);
        by.elites = 2;
        by.crossing = crossing;
        by.choice = choice;
        List<Integer> due = by.generation(ByHand.members(h, 0), ByHand.front(h, 0));
        int best = h.breed(0, 1);
        C.is("members", ByHand.members(h, 0).toString(), due.toString());
        for (int b : due) {
            C.is("child", Check.print(h, b), Check.print(hand, b));
            for (int what = 0; what < 9; what++) {
                C.is("child", h.birth(b, what), hand.birth(b, what));
            }
            C.is("seed", h.seed(b), hand.seed(b));
        }
        C.is("the best then", best, inOrder(h, due).get(0));
        C.is("best()", h.best(0), best);
    }

    /** How many draws a program of a population needs. */
    private static int drawsOf(int kind, int size) {
        return kind <= 1 ? 2 : kind == 2 ? 5 * size : 4 * size;
    }

    private static void wrongBreeding() {
        BreedingHouse h = new BreedingHouse();
        C.fails("island", Check.INDEX, () -> h.breed(4, 0));
        C.fails("generations 0", Check.ARGUMENT, () -> h.breed(0, 0));
        C.fails("generations 21", Check.ARGUMENT, () -> h.breed(0, 21));
        C.fails("no members", Check.STATE, () -> h.breed(0, 1));
        C.fails("no best", Check.STATE, () -> h.best(0));
        C.fails("no island", Check.INDEX, () -> h.best(-1));
        h.populate(0, 0, 16, 3, 1);
        int best = h.breed(0, 20);
        C.is("16 and 15 * 20", h.births(), 316);
        C.is("is a member", ByHand.members(h, 0).contains(best), true);
        h.breed(0, 18);
        C.is("270 more", h.births(), 586);
        C.fails("no room for 15", Check.STATE, () -> h.breed(0, 1));
        C.is("nothing has changed", h.births(), 586);
        h.set(1, 2);
        h.breed(0, 1);
        C.is("room for 14", h.births(), 600);
        C.fails("no room for one", Check.STATE, () -> h.populate(1, 0, 1, 3, 1));
    }

    private static void eliteCounts() {
        BreedingHouse h = new BreedingHouse();
        h.add(1, 2, 3, 4, 1, false);
        h.populate(0, 0, 3, 3, 9);
        h.set(1, 4);
        List<Integer> due = inOrder(h, ByHand.members(h, 0));
        h.breed(0, 5);
        C.is("all stay, in order", ByHand.members(h, 0).toString(), due.toString());
        C.is("none was born", h.births(), 3);
        Check.fill(h, 600);
        C.is("there is room for none", h.breed(0, 1), due.get(0));
        h.set(1, 0);
        C.fails("no room for three", Check.STATE, () -> h.breed(0, 1));
    }

    private static void moves() {
        BreedingHouse h = new BreedingHouse();
        h.add(3, 5, 7, 11, 1, false);
        h.populate(0, 0, 4, 3, 2);
        h.populate(1, 0, 5, 3, 3);
        h.populate(2, 1, 2, 3, 4);
        List<Integer> before = ByHand.members(h, 1);
        List<Integer> order = inOrder(h, before);
        int best = h.best(0);
        C.is("moved", h.move(0, 1), true);
        before.set(before.indexOf(order.get(4)), best);
        C.is("the worst one's place", ByHand.members(h, 1).toString(), before.toString());
        C.is("once more", h.move(0, 1), true);
        List<Integer> twice = ByHand.members(h, 1);
        C.is("it is there twice", twice.size(), 5);
        C.is("one island", h.move(1, 1), false);
        C.is("two kinds", h.move(0, 2), false);
        C.is("empty", h.move(3, 0), false);
        C.is("empty", h.move(0, 3), false);
        C.fails("no island", Check.INDEX, () -> h.move(0, 4));
        C.fails("no island", Check.INDEX, () -> h.move(-1, 0));
        worstTwice();
        BreedingHouse one = new BreedingHouse();
        one.populate(0, 3, 3, 4, 1);
        one.populate(0, 0, 1, 4, 1);
        one.populate(1, 0, 1, 4, 1);
        C.is("those of now count, not those of once", one.move(0, 1), true);
        C.is("its only place", one.member(1, 0), one.member(0, 0));
    }

    private static void worstTwice() {
        BreedingHouse h = new BreedingHouse();
        h.populate(0, 3, 1, 3, 1);
        h.populate(1, 3, 2, 3, 2);
        // Without cases the lesser birth is better: 0 comes for 2, then for 1 and so on.
        C.is("moved", h.move(0, 1), true);
        C.is("the greater birth goes", h.member(1, 1), 0);
        C.is("moved", h.move(0, 1), true);
        C.is("then the other one", h.member(1, 0), 0);
        h.populate(2, 3, 1, 3, 3);
        h.populate(3, 3, 3, 3, 4);
        int b = h.member(3, 0);
        h.move(2, 3);
        h.move(2, 3);
        C.is("3 is best and stands twice", h.member(3, 1) == 3 && h.member(3, 2) == 3 && h.member(3, 0) == b, true);
        h.add(0, 0, 0, 0, 1, false);
        C.is("moved", h.move(0, 3), true);
        C.is("the worst of all goes", h.member(3, 0), 0);
        C.is("moved", h.move(0, 3), true);
        C.is("of one birth at two places the greater", h.member(3, 2), 0);
        C.is("the other place stays", h.member(3, 1), 3);
    }

    private static void fronts() {
        BreedingHouse h = new BreedingHouse();
        cases(h);
        for (int seed = 0; seed < 12; seed++) {
            h.populate(0, seed % 4, 12, 2 + seed % 5, seed);
            List<Integer> due = ByHand.dueFront(h, 0);
            C.is("front", ByHand.front(h, 0).toString(), due.toString());
            C.is("behind", h.front(0, due.size()), -1);
            C.is("ahead", h.front(0, -1), -1);
        }
        C.fails("no island", Check.INDEX, () -> h.front(4, 0));
        BreedingHouse twice = new BreedingHouse();
        twice.populate(0, 0, 1, 1, 0);
        twice.populate(1, 0, 1, 1, 1);
        twice.move(0, 1);
        C.is("moved ones count", twice.front(1, 0), 0);
    }

    private static void odds() {
        BreedingHouse h = new BreedingHouse();
        h.populate(0, 0, 4, 1, 17);
        C.is("without cases the first", h.odds(0, 0, 0), 1);
        C.is("without cases the first", h.odds(0, 0, 1), 1);
        C.is("no other", h.odds(0, 1, 0), 0);
        C.is("no other", h.odds(0, 1, 1), 1);
        for (int seed = 0; seed < 8; seed++) {
            BreedingHouse g = new BreedingHouse();
            Draws draws = new Draws(seed);
            for (int k = 0; k < 2 + seed % 5; k++) {
                g.add(draws.draw(5), draws.draw(5), draws.draw(5), draws.draw(7), 1, false);
            }
            g.add(1, 1, 1, 1, 1, true);
            g.populate(0, 0, 6, 3, seed);
            oddsOf(g, 2 + seed % 5);
        }
        C.fails("island", Check.INDEX, () -> h.odds(5, 0, 9));
        C.fails("member", Check.INDEX, () -> h.odds(0, 4, 9));
        C.fails("member", Check.INDEX, () -> h.odds(0, -1, 0));
        C.fails("part", Check.ARGUMENT, () -> h.odds(0, 0, 2));
        for (int k = 0; k < 6; k++) {
            h.add(k, 0, 0, k, 1, false);
            h.add(k, 0, 0, k, 1, true);
        }
        C.is("six are fine", h.odds(0, 0, 1) > 0, true);
        h.add(7, 0, 0, 7, 1, false);
        C.fails("seven", Check.STATE, () -> h.odds(0, 0, 0));
        C.fails("part is told first", Check.ARGUMENT, () -> h.odds(0, 0, -1));
    }

    private static void oddsOf(BreedingHouse h, int seen) {
        int[] wins = new int[6];
        int all = orders(h, new ArrayList<>(), seen, wins);
        for (int place = 0; place < 6; place++) {
            int a = wins[place];
            int b = all;
            while (a != 0) {
                int left = b % a;
                b = a;
                a = left;
            }
            C.is("odds above", h.odds(0, place, 0), wins[place] / b);
            C.is("odds below", h.odds(0, place, 1), all / b);
        }
    }

    private static int orders(BreedingHouse h, List<Integer> order, int seen, int[] wins) {
        if (order.size() == seen) {
            List<Integer> left = new ArrayList<>(List.of(0, 1, 2, 3, 4, 5));
            for (int k : order) {
                int least = left.stream().mapToInt(p -> h.error(h.member(0, p), k)).min().getAsInt();
                left.removeIf(p -> h.error(h.member(0, p), k) != least);
            }
            wins[left.get(0)]++;
            return 1;
        }
        int many = 0;
        for (int k = 0; k < seen; k++) {
            if (!order.contains(k)) {
                order.add(k);
                many += orders(h, order, seen, wins);
                order.remove(order.size() - 1);
            }
        }
        return many;
    }

    private static void distances() {
        BreedingHouse h = new BreedingHouse();
        int x = Check.tree(h, "x");
        int y = Check.tree(h, "y");
        int quotient = Check.tree(h, "(/ x z)");
        int rest = Check.tree(h, "(% y z)");
        int place = Check.tree(h, "(# z)");
        C.is("without cases", h.distance(x, y), 0);
        h.add(3, 8, 0, 0, 9, false);
        C.is("5", h.distance(x, y), 5);
        C.is("5", h.distance(y, x), 5);
        C.is("a fault and none", h.distance(x, quotient), 1000000);
        C.is("one fault", h.distance(rest, quotient), 0);
        C.is("two faults", h.distance(quotient, place), 1000000);
        h.add(Integer.MAX_VALUE, Integer.MIN_VALUE, 1, 0, 1, false);
        h.add(100, 1, 1, 0, 1, true);
        C.is("far", h.distance(x, y), 1000005);
        C.fails("no birth", Check.INDEX, () -> h.distance(x, 99));
        C.fails("no birth", Check.INDEX, () -> h.distance(-1, x));
        for (int n = 1; n < 7; n++) {
            h.populate(0, 0, n, 3, n);
            for (int p = 0; p < n; p++) {
                List<Long> far = new ArrayList<>();
                for (int q = 0; q < n; q++) {
                    if (q != p) {
                        far.add(h.distance(h.member(0, p), h.member(0, q)));
                    }
                }
                far.sort(null);
                long due = 0;
                for (int k = 0; k < 3 && k < far.size(); k++) {
                    due += far.get(k);
                }
                C.is("novelty", h.novelty(0, p), due);
            }
        }
        C.fails("no member", Check.INDEX, () -> h.novelty(0, 6));
        C.fails("no member", Check.INDEX, () -> h.novelty(1, 0));
        C.fails("no island", Check.INDEX, () -> h.novelty(4, 0));
    }
}
