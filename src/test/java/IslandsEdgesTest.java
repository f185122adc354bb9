import java.util.ArrayList;
import java.util.List;

/** The edges of promises 34 to 47 and of Term 7: islands and pedigrees. */
public final class IslandsEdgesTest {
    private static final Check C = new Check();
    private static final int LEAST = Integer.MIN_VALUE;
    private static final int MOST = Integer.MAX_VALUE;
    private static final long[] SEEDS = {0, 1, -1, Long.MIN_VALUE, Long.MAX_VALUE};

    public static void main(String[] args) {
        populatedTrees();
        populatedCode();
        populatedMachines();
        populatedNets();
        newMembers();
        wrongKinds();
        wrongMany();
        wrongSizes();
        noRoomForAll();
        membersOfIslands();
        noSuchMember();
        generations();
        noMembers();
        noRoomForChildren();
        elites();
        fewerThanElites();
        eliteTwice();
        tournaments();
        crossings();
        choiceByCases();
        choiceOfTheFront();
        bestThen();
        manyGenerations();
        moved();
        movedToTheWorst();
        notMoved();
        movedByScore();
        kindOfMembers();
        chosenAmongFaults();
        bestMember();
        fronts();
        oddsOfOrders();
        oddsWithoutCases();
        oddsOfSix();
        oddsWrong();
        distances();
        novelties();
        noveltyOfFew();
        lines();
        forebears();
        gains();
        noGain();
        replays();
        C.end();
    }

    private static void populatedTrees() {
        C.about("Promise 34", "TREES of a SIZE with the PLACE of a WIDE DRAW");
        for (long seed : SEEDS) {
            BreedingHouse h = new BreedingHouse();
            Draws draws = new Draws(seed);
            for (int size : new int[] {1, 9}) {
                int first = h.populate(0, 0, size == 1 ? 16 : 1, size, seed);
                draws = new Draws(seed);
                for (int k = 0; k < h.members(0); k++) {
                    C.is("size", h.birth(first + k, 1), size);
                    C.is("place", h.place(first + k), draws.wide(h.trees(size)));
                }
            }
        }
    }

    private static void populatedCode() {
        C.about("Promise 34", "CODE: such a TREE (which is no BIRTH) by compile(), or the PUSH of 0 if that can't be");
        int zeros = 0;
        for (int size = 1; size <= 9; size += 2) {
            BreedingHouse h = new BreedingHouse();
            Draws draws = new Draws(size);
            C.is("the first birth", h.populate(3, 1, 16, size, size), 0);
            C.is("no other birth", h.births(), 16);
            for (int k = 0; k < 16; k++) {
                int code = h.compile(h.tree(size, draws.wide(h.trees(size))), 1);
                zeros += code < 0 ? 1 : 0;
                C.is("code", Check.print(h, k), code < 0 ? "0" : Check.print(h, code));
                C.is("the same", code < 0 || h.same(k, code), true);
                C.is("way", h.birth(k, 2), 2);
                C.is("lines", h.birth(k, 7), 0);
            }
        }
        C.is("some can't be", zeros > 0, true);
    }

    private static void populatedMachines() {
        C.about("Promise 34", "MACHINES with so many states: for each its OUTPUT, a DRAW of 10, then its EDGES, "
                + "DRAWS of size");
        for (int size : new int[] {1, 6}) {
            BreedingHouse h = new BreedingHouse();
            Draws draws = new Draws(-5);
            h.populate(2, 2, 16, size, -5);
            for (int k = 0; k < 16 * size; k++) {
                C.is("states", h.birth(k / size, 1), size);
                C.is("output", h.item(k / size, k % size, 0), draws.draw(10));
                for (int c = 0; c < 4; c++) {
                    C.is("edge", h.item(k / size, k % size, 1 + c), draws.draw(size));
                }
            }
        }
    }

    private static void populatedNets() {
        C.about("Promise 34", "NETS with so many lines and twice as many COMPARATORS: i, a DRAW of size - 1, then j, "
                + "i and 1 and a DRAW of size - 1 - i.");
        for (int size : new int[] {2, 3, 8}) {
            BreedingHouse h = new BreedingHouse();
            Draws draws = new Draws(17);
            h.populate(1, 3, 16, size, 17);
            for (int k = 0; k < 16 * 2 * size; k++) {
                int i = draws.draw(size - 1);
                C.is("i", h.item(k / (2 * size), k % (2 * size), 0), i);
                C.is("j", h.item(k / (2 * size), k % (2 * size), 1), i + 1 + draws.draw(size - 1 - i));
            }
            C.is("lines", h.birth(15, 7), size);
            C.is("comparators", h.birth(15, 1), 2 * size);
        }
    }

    private static void newMembers() {
        C.about("Promise 34", "An ISLAND'S STREAM is that of a seed, and its MEMBERS are n new programs of a KIND");
        BreedingHouse h = new BreedingHouse();
        C.is("16", h.populate(0, 0, 16, 3, 1), 0);
        C.is("16 are there", h.members(0), 16);
        C.is("one", h.populate(0, 2, 1, 3, 1), 16);
        C.is("one is there", h.members(0), 1);
        C.is("the new one", h.member(0, 0), 16);
        C.fails("no other", Check.INDEX, () -> h.member(0, 1));
        C.is("the others are still births", h.birth(0, 0), 0);
        h.populate(1, 0, 2, 3, 5);
        h.breed(1, 1);
        int again = h.populate(1, 0, 2, 3, 5);
        C.is("the stream begins anew", h.same(again, 17), true);
    }

    private static void wrongKinds() {
        C.about("Promise 34", "IllegalArgumentException: kind; n isn't 1 .. 16; size isn't 1 .. 9 (TREES, CODE), 1 "
                + ".. 6 (MACHINES), 2 .. 8 (NETS).");
        BreedingHouse h = new BreedingHouse();
        for (int kind : new int[] {-1, 4, LEAST, MOST}) {
            C.fails("kind " + kind, Check.ARGUMENT, () -> h.populate(0, kind, 1, 2, 0));
        }
        for (int kind = 0; kind < 4; kind++) {
            C.is("kind " + kind, h.populate(0, kind, 1, 2, 0), kind);
        }
    }

    private static void wrongMany() {
        C.about("Promise 34", "n isn't 1 .. 16");
        BreedingHouse h = new BreedingHouse();
        for (int kind = 0; kind < 4; kind++) {
            int k = kind;
            for (int n : new int[] {0, 17, -1, LEAST, MOST}) {
                C.fails("n " + n, Check.ARGUMENT, () -> h.populate(0, k, n, 2, 0));
            }
            C.is("1", h.populate(0, k, 1, 2, 0), 17 * k);
            C.is("16", h.populate(0, k, 16, 2, 0), 17 * k + 1);
        }
    }

    private static void wrongSizes() {
        C.about("Promise 34", "size isn't 1 .. 9 (TREES, CODE), 1 .. 6 (MACHINES), 2 .. 8 (NETS)");
        int[] least = {1, 1, 1, 2};
        int[] most = {9, 9, 6, 8};
        BreedingHouse h = new BreedingHouse();
        for (int kind = 0; kind < 4; kind++) {
            int k = kind;
            for (int size : new int[] {least[k] - 1, most[k] + 1, -1, LEAST, MOST}) {
                C.fails("kind " + k + " size " + size, Check.ARGUMENT, () -> h.populate(0, k, 1, size, 0));
            }
            C.is("the least", h.populate(0, k, 1, least[k], 0), 2 * k);
            C.is("the most", h.populate(0, k, 1, most[k], 0), 2 * k + 1);
        }
    }

    private static void noRoomForAll() {
        C.about("Promise 34", "IllegalStateException: there is no room for all.");
        BreedingHouse h = new BreedingHouse();
        h.populate(0, 2, 2, 2, 9);
        Check.fill(h, 585);
        C.fails("16 would be 601", Check.STATE, () -> h.populate(0, 0, 16, 1, 0));
        C.is("none came", h.births(), 585);
        C.is("members stay", h.members(0), 2);
        C.is("15 are 600", h.populate(0, 0, 15, 1, 0), 585);
        C.is("all are there", h.births(), 600);
        C.fails("one more", Check.STATE, () -> h.populate(0, 0, 1, 1, 0));
        BreedingHouse g = new BreedingHouse();
        Check.fill(g, 584);
        C.is("16 are 600", g.populate(0, 0, 16, 1, 0), 584);
    }

    private static void membersOfIslands() {
        C.about("Promise 35", "How many MEMBERS an ISLAND has.");
        BreedingHouse h = new BreedingHouse();
        for (int island = 0; island < 4; island++) {
            C.is("none", h.members(island), 0);
            h.populate(island, 0, 1 + 5 * island, 1, 0);
            C.is("some", h.members(island), 1 + 5 * island);
        }
        for (int island : new int[] {-1, 4, LEAST, MOST}) {
            C.fails("island " + island, Check.INDEX, () -> h.members(island));
            C.fails("island " + island, Check.INDEX, () -> h.member(island, 0));
            C.fails("island " + island, Check.INDEX, () -> h.populate(island, 0, 1, 1, 0));
            C.fails("island " + island, Check.INDEX, () -> h.breed(island, 1));
            C.fails("island " + island, Check.INDEX, () -> h.move(island, 0));
            C.fails("island " + island, Check.INDEX, () -> h.move(0, island));
            C.fails("island " + island, Check.INDEX, () -> h.best(island));
            C.fails("island " + island, Check.INDEX, () -> h.front(island, 0));
            C.fails("island " + island, Check.INDEX, () -> h.odds(island, 0, 0));
            C.fails("island " + island, Check.INDEX, () -> h.novelty(island, 0));
        }
    }

    private static void noSuchMember() {
        C.about("Promise 36", "The BIRTH at a PLACE of an ISLAND.");
        BreedingHouse h = new BreedingHouse();
        h.tree(1, 0);
        h.populate(2, 0, 16, 1, 0);
        C.is("the first", h.member(2, 0), 1);
        C.is("the last", h.member(2, 15), 16);
        for (int place : new int[] {-1, 16, LEAST, MOST}) {
            C.fails("member " + place, Check.INDEX, () -> h.member(2, place));
            C.fails("novelty " + place, Check.INDEX, () -> h.novelty(2, place));
            C.fails("odds " + place, Check.INDEX, () -> h.odds(2, place, 0));
        }
        C.fails("an island without members", Check.INDEX, () -> h.member(0, 0));
        C.fails("an island without members", Check.INDEX, () -> h.novelty(0, 0));
        C.fails("an island without members", Check.INDEX, () -> h.odds(0, 0, 0));
    }

    private static void generations() {
        C.about("Promise 37", "IllegalArgumentException: generations isn't 1 .. 20.");
        BreedingHouse h = new BreedingHouse();
        h.populate(0, 0, 3, 2, 0);
        for (int many : new int[] {0, 21, -1, LEAST, MOST}) {
            C.fails("generations " + many, Check.ARGUMENT, () -> h.breed(0, many));
        }
        h.breed(0, 1);
        C.is("one", h.births(), 3 + 2);
        h.breed(0, 20);
        C.is("twenty", h.births(), 5 + 40);
    }

    private static void noMembers() {
        C.about("Promise 37", "IllegalStateException: it has no MEMBERS");
        BreedingHouse h = new BreedingHouse();
        for (int island = 0; island < 4; island++) {
            int i = island;
            C.fails("island " + i, Check.STATE, () -> h.breed(i, 1));
            h.populate(i, 0, 1, 1, 0);
            C.is("one member", h.breed(i, 1), h.member(i, 0));
        }
    }

    private static void noRoomForChildren() {
        C.about("Promise 37", "there is no room for all children of all GENERATIONS.");
        BreedingHouse h = new BreedingHouse();
        h.set(1, 0);
        h.populate(0, 0, 16, 1, 0);
        Check.fill(h, 281);
        C.fails("20 times 16 would be 601", Check.STATE, () -> h.breed(0, 20));
        C.is("none came", h.births(), 281);
        h.set(1, 1);
        h.breed(0, 20);
        C.is("20 times 15", h.births(), 581);
        C.fails("2 times 15", Check.STATE, () -> h.breed(0, 2));
        h.breed(0, 1);
        C.is("15", h.births(), 596);
        C.fails("15 more", Check.STATE, () -> h.breed(0, 1));
        C.is("none came", h.births(), 596);
        BreedingHouse g = new BreedingHouse();
        g.set(1, 0);
        g.populate(0, 0, 16, 1, 0);
        Check.fill(g, 280);
        g.breed(0, 20);
        C.is("20 times 16 are 600", g.births(), 600);
        C.fails("no more", Check.STATE, () -> g.breed(0, 1));
    }

    private static void someCases(BreedingHouse h, int seen, int hidden) {
        for (int k = 0; k < seen + hidden; k++) {
            Check.put(h, k, 3 - k);
            h.add(k, 2 * k - 3, 5 - k, k * k - 4, 1 + k % 3, k >= seen);
        }
    }

    private static int drawsOf(int kind, int size) {
        return kind <= 1 ? 2 : kind == 2 ? 5 * size : 4 * size;
    }

    /** Breeds one generation in a house, and in a second one by hand. */
    private static void bredAlike(int kind, int n, int seen, int... settings) {
        BreedingHouse h = new BreedingHouse();
        BreedingHouse hand = new BreedingHouse();
        long seed = 31L * kind + 7 * n + seen + settings[3];
        int size = 3 + kind % 3;
        for (BreedingHouse one : new BreedingHouse[] {h, hand}) {
            someCases(one, seen, Math.min(2, 24 - seen));
            for (int what = 0; what < 4; what++) {
                one.set(1 + what, settings[what]);
            }
            one.populate(1, kind, n, size, seed);
        }
        Draws draws = new Draws(seed);
        for (int k = 0; k < n * drawsOf(kind, size); k++) {
            draws.next();
        }
        ByHand by = new ByHand(hand, draws);
        by.elites = settings[0];
        by.tournament = settings[1];
        by.crossing = settings[2];
        by.choice = settings[3];
        for (int generation = 0; generation < 2; generation++) {
            List<Integer> members = ByHand.members(h, 1);
            List<Integer> front = ByHand.front(h, 1);
            List<Integer> due = by.generation(members, front);
            h.breed(1, 1);
            C.is("members", ByHand.members(h, 1).toString(), due.toString());
        }
        C.is("births", h.births(), hand.births());
        for (int b = 0; b < h.births(); b++) {
            C.is("birth " + b, Check.print(h, b), Check.print(hand, b));
            C.is("seed " + b, h.seed(b), hand.seed(b));
            for (int what = 2; what < 7; what++) {
                C.is("birth " + b, h.birth(b, what), hand.birth(b, what));
            }
        }
    }

    private static void elites() {
        C.about("Term 7", "as many as ELITES says (all, if there are fewer) stay; for each of the others a child");
        for (int elites = 0; elites <= 4; elites++) {
            bredAlike(0, 6, 3, elites, 3, 30, 0);
            bredAlike(1 + elites % 3, 5, 3, elites, 3, 30, 0);
        }
    }

    private static void fewerThanElites() {
        C.about("Term 7", "(all, if there are fewer)");
        for (int n = 1; n <= 5; n++) {
            BreedingHouse h = new BreedingHouse();
            someCases(h, 2, 0);
            h.populate(0, 0, n, 3, 4);
            h.set(1, 4);
            List<Integer> due = ByHand.members(h, 0);
            due.sort((a, b) -> h.compare(a, b));
            h.breed(0, 1);
            C.is("births", h.births(), n == 5 ? 6 : n);
            C.is("the elites in order", ByHand.members(h, 0).subList(0, Math.min(n, 4)).toString(),
                    due.subList(0, Math.min(n, 4)).toString());
            C.is("as many as before", h.members(0), n);
        }
        BreedingHouse full = new BreedingHouse();
        full.populate(0, 0, 4, 1, 4);
        full.set(1, 4);
        Check.fill(full, 600);
        C.is("no child needs no room", full.breed(0, 20), full.best(0));
    }

    private static void eliteTwice() {
        C.about("Term 7", "(of one BIRTH the lesser PLACE first; each PLACE counts)");
        BreedingHouse h = new BreedingHouse();
        h.populate(0, 0, 1, 3, 1);
        h.populate(1, 0, 4, 3, 2);
        h.move(0, 1);
        h.move(0, 1);
        C.is("birth 0 is there twice", ByHand.members(h, 1).toString(), "[1, 2, 0, 0]");
        h.set(1, 3);
        h.breed(1, 1);
        C.is("both stay, and the next one", ByHand.members(h, 1).toString(), "[0, 0, 1, 5]");
    }

    private static void tournaments() {
        C.about("Term 7", "0: so many DRAWS of its MEMBERS as TOURNAMENT says: the BEST of these.");
        for (int tournament = 1; tournament <= 5; tournament++) {
            bredAlike(0, 7, 2, 1, tournament, 30, 0);
            bredAlike(3, 16, 2, 1, tournament, 50, 0);
        }
        bredAlike(2, 1, 2, 0, 5, 30, 0);
        bredAlike(1, 6, 0, 1, 5, 30, 0);
    }

    private static void crossings() {
        C.about("Term 7", "if a DRAW of 100 is below CROSSING");
        for (int crossing : new int[] {0, 1, 99, 100}) {
            bredAlike(0, 16, 2, 0, 3, crossing, 0);
        }
        for (int crossing : new int[] {0, 100}) {
            BreedingHouse h = new BreedingHouse();
            h.populate(0, 0, 16, 3, 8);
            h.set(3, crossing);
            h.breed(0, 20);
            for (int b = 16; b < h.births(); b++) {
                C.is("way", h.birth(b, 2), crossing == 0 ? 3 : 4);
            }
        }
        // A draw that is just the setting doesn't cross, one below it does.
        Draws draws = new Draws(0);
        draws.wide(14);
        int drawn = draws.draw(100);
        for (int more = 0; more <= 1; more++) {
            BreedingHouse h = new BreedingHouse();
            h.populate(0, 0, 1, 1, 0);
            h.set(1, 0);
            h.set(3, drawn + more);
            h.breed(0, 1);
            C.is("drawn " + drawn + " with " + (drawn + more), h.birth(1, 2), 3 + more);
        }
    }

    private static void choiceByCases() {
        C.about("Term 7", "only MEMBERS with the least ERROR of those that are left stay, till one is left or all "
                + "cases are through (all DRAWS are made in any case): the one with the least PLACE.");
        for (int seen : new int[] {0, 1, 2, 3, 8, 22, 24}) {
            bredAlike(0, 8, seen, 1, 3, 30, 1);
            bredAlike(3, 16, seen, 1, 3, 30, 1);
            bredAlike(2, 5, seen, 0, 3, 50, 1);
        }
        bredAlike(0, 1, 5, 0, 3, 30, 1);
    }

    private static void choiceOfTheFront() {
        C.about("Term 7", "2: a DRAW of the FRONT.");
        for (int seen : new int[] {0, 1, 6}) {
            bredAlike(0, 8, seen, 1, 3, 30, 2);
            bredAlike(1, 8, seen, 1, 3, 30, 2);
            bredAlike(3, 1, seen, 0, 3, 30, 2);
        }
    }

    private static void bestThen() {
        C.about("Promise 37", "So many GENERATIONS: the BEST MEMBER then.");
        BreedingHouse h = new BreedingHouse();
        someCases(h, 3, 1);
        h.populate(0, 0, 8, 3, 6);
        for (int k = 0; k < 4; k++) {
            int best = h.breed(0, 1 + k);
            C.is("best()", h.best(0), best);
            for (int b : ByHand.members(h, 0)) {
                C.is("none is better", h.compare(b, best) >= 0, true);
            }
        }
    }

    private static void manyGenerations() {
        C.about("Term 7", "Then the MEMBERS are the ELITES, in that order, and the children as they were born.");
        BreedingHouse once = new BreedingHouse();
        BreedingHouse often = new BreedingHouse();
        for (BreedingHouse h : new BreedingHouse[] {once, often}) {
            someCases(h, 3, 1);
            h.populate(0, 0, 8, 3, 6);
            h.set(1, 2);
        }
        int best = once.breed(0, 20);
        int last = -1;
        for (int k = 0; k < 20; k++) {
            last = often.breed(0, 1);
            C.is("the children as they were born", ByHand.members(often, 0).subList(2, 8).toString(),
                    born(often.births() - 6, 6).toString());
        }
        C.is("twenty at once or one by one", best, last);
        C.is("members", ByHand.members(once, 0).toString(), ByHand.members(often, 0).toString());
    }

    private static List<Integer> born(int from, int many) {
        List<Integer> all = new ArrayList<>();
        for (int k = 0; k < many; k++) {
            all.add(from + k);
        }
        return all;
    }

    private static void moved() {
        C.about("Promise 38", "The BEST MEMBER of one ISLAND comes to the PLACE of the worst one of another one");
        BreedingHouse h = new BreedingHouse();
        h.populate(0, 0, 3, 3, 2);
        h.populate(1, 0, 4, 5, 3);
        C.is("without cases size and birth count", h.move(0, 1), true);
        C.is("the best of 0 comes for the last of 1", ByHand.members(h, 1).toString(), "[3, 4, 5, 0]");
        C.is("the one island is as it was", ByHand.members(h, 0).toString(), "[0, 1, 2]");
        C.is("births", h.births(), 7);
        h.populate(2, 0, 1, 9, 1);
        C.is("a worse one may come", h.move(2, 0), true);
        C.is("for the worst", ByHand.members(h, 0).toString(), "[0, 1, 7]");
        h.populate(3, 0, 1, 1, 1);
        C.is("to an island of one", h.move(0, 3), true);
        C.is("it is the only one", ByHand.members(h, 3).toString(), "[0]");
    }

    private static void movedToTheWorst() {
        C.about("Promise 38", "(the one than which none is worse; of one BIRTH at several PLACES the greatest)");
        BreedingHouse h = new BreedingHouse();
        h.populate(0, 0, 1, 9, 1);
        h.populate(1, 0, 3, 2, 1);
        h.move(0, 1);
        C.is("the worst goes", ByHand.members(h, 1).toString(), "[1, 2, 0]");
        h.populate(0, 0, 1, 8, 1);
        h.move(0, 1);
        C.is("0 was the worst", ByHand.members(h, 1).toString(), "[1, 2, 4]");
        BreedingHouse g = new BreedingHouse();
        g.populate(0, 0, 1, 1, 1);
        g.populate(1, 0, 3, 2, 1);
        g.move(0, 1);
        g.move(0, 1);
        g.move(0, 1);
        C.is("three times one birth", ByHand.members(g, 1).toString(), "[0, 0, 0]");
        g.populate(2, 0, 1, 1, 1);
        g.move(2, 1);
        C.is("the greatest place", ByHand.members(g, 1).toString(), "[0, 0, 4]");
        g.move(0, 1);
        C.is("4 was the worst", ByHand.members(g, 1).toString(), "[0, 0, 0]");
    }

    private static void notMoved() {
        C.about("Promise 38", "False, and nothing changes, if both are one ISLAND, one has no MEMBERS, or their "
                + "first MEMBERS are of two KINDS.");
        BreedingHouse h = new BreedingHouse();
        C.is("both without members", h.move(0, 1), false);
        for (int kind = 0; kind < 3; kind++) {
            h.populate(kind, kind, 2, 3, 1);
        }
        for (int from = 0; from < 4; from++) {
            for (int to = 0; to < 4; to++) {
                C.is("from " + from + " to " + to, h.move(from, to), false);
            }
        }
        for (int island = 0; island < 3; island++) {
            C.is("as it was", ByHand.members(h, island).toString(), "[" + 2 * island + ", " + (2 * island + 1) + "]");
        }
        C.is("none has come", h.members(3), 0);
        BreedingHouse g = new BreedingHouse();
        g.populate(0, 3, 3, 4, 1);
        g.populate(0, 0, 1, 4, 1);
        g.populate(1, 0, 2, 4, 1);
        C.is("those that were there don't count", g.move(0, 1), true);
        C.is("nor on the other one", g.move(1, 0), true);
    }

    private static void movedByScore() {
        C.about("Throws", "nothing of SCORES is kept");
        BreedingHouse h = new BreedingHouse();
        h.populate(0, 0, 3, 1, seedOf(1, 5, 3));
        h.populate(1, 0, 3, 1, seedOf(4, 9, 0));
        h.add(0, 0, 0, 5, 1, false);
        h.add(0, 0, 0, 1, 9, true);
        C.is("the best of 1, 5, 3 comes for the worst of 4, 9, 0", h.move(0, 1), true);
        C.is("5 for 0", ByHand.members(h, 1).toString(), "[3, 4, 1]");
        C.is("best()", h.best(0), 1);
        h.drop(0);
        h.add(0, 0, 0, 2, 1, false);
        C.is("the best of 1, 5, 3 now comes for the worst of 4, 9, 5", h.move(0, 1), true);
        C.is("1 for 9", ByHand.members(h, 1).toString(), "[3, 0, 1]");
        C.is("best()", h.best(0), 0);
        C.is("front", ByHand.front(h, 1).toString(), "[0]");
        h.drop(1);
        C.is("without seen cases", h.best(1), 0);
        C.is("front", ByHand.front(h, 1).toString(), "[3, 0, 1]");
    }

    private static void kindOfMembers() {
        C.about("Term 7", "a HOW, a DRAW of 5 (of 4 for others than TREES)");
        BreedingHouse h = new BreedingHouse();
        h.populate(0, 2, 16, 3, 1);
        h.populate(0, 0, 1, 3, 1);
        h.set(1, 0);
        h.set(3, 0);
        for (int k = 0; k < 20; k++) {
            h.breed(0, 20);
        }
        int regrown = 0;
        for (int b = 17; b < h.births(); b++) {
            regrown += h.birth(b, 5) == 4 ? 1 : 0;
        }
        C.is("members that were there don't count", regrown > 20, true);
    }

    private static void chosenAmongFaults() {
        C.about("Term 7", "only MEMBERS with the least ERROR of those that are left stay");
        BreedingHouse h = new BreedingHouse();
        h.put(5);
        h.add(0, 0, 0, 5, 1, false);
        h.add(0, 0, 0, 0, 1, false);
        // -1, and twice what stands at place 0: a fault at the second case, the only error that is left there if the
        // first one comes first.
        h.populate(0, 0, 3, 2, seedOf(28L, 1, 14, 14));
        C.is("as drawn", Check.print(h, 0) + Check.print(h, 1) + Check.print(h, 2), "(~ 1)(# 0)(# 0)");
        oddsAre(h, 0, 1, 2);
        oddsAre(h, 1, 1, 2);
        oddsAre(h, 2, 0, 1);
    }

    private static void bestMember() {
        C.about("Promise 39", "The BEST MEMBER. IllegalStateException: there is none.");
        BreedingHouse h = new BreedingHouse();
        for (int island = 0; island < 4; island++) {
            int i = island;
            C.fails("none", Check.STATE, () -> h.best(i));
        }
        h.populate(2, 0, 1, 3, 0);
        C.is("the only one", h.best(2), 0);
        h.populate(2, 0, 16, 3, 0);
        C.is("of lesser birth", h.best(2), 1);
        h.add(1, 2, 3, 4, 1, false);
        int due = 1;
        for (int b = 2; b <= 16; b++) {
            due = h.compare(b, due) < 0 ? b : due;
        }
        C.is("of lesser score", h.best(2), due);
    }

    private static void fronts() {
        C.about("Promise 40", "The k-th MEMBER, from 0 on, of the FRONT: its BIRTH; -1 if there is none such.");
        BreedingHouse h = new BreedingHouse();
        for (int k : new int[] {0, 1, -1, LEAST, MOST}) {
            C.is("without members", h.front(0, k), -1);
        }
        h.populate(0, 0, 16, 2, 0);
        for (int k = 0; k < 16; k++) {
            C.is("all are alike, so all are in it", h.front(0, k), k);
        }
        for (int k : new int[] {-1, 16, LEAST, MOST}) {
            C.is("front " + k, h.front(0, k), -1);
        }
        C.about("Term 7", "FRONT: the MEMBERS of which no other one has both SCORE (SEEN) and SIZE no greater and "
                + "one of them less; in the order of PLACES.");
        BreedingHouse g = new BreedingHouse();
        g.populate(0, 0, 4, 3, 1);
        g.populate(1, 0, 1, 1, 1);
        g.move(1, 0);
        C.is("one of lesser size and the same score", g.front(0, 0), 4);
        C.is("alone", g.front(0, 1), -1);
        BreedingHouse first = new BreedingHouse();
        first.populate(0, 0, 2, 1, 1);
        first.populate(1, 0, 1, 3, 1);
        first.move(1, 0);
        C.is("the greater one is at the last place", ByHand.members(first, 0).toString(), "[0, 2]");
        C.is("the first place has the lesser one", ByHand.front(first, 0).toString(), "[0]");
        for (int seed = 0; seed < 20; seed++) {
            frontIs(seed);
        }
    }

    private static void frontIs(int seed) {
        BreedingHouse h = new BreedingHouse();
        someCases(h, 1 + seed % 3, 1);
        for (int island = 1; island < 4; island++) {
            h.populate(island, 0, 4, island, seed + island);
        }
        h.populate(0, 0, 9, 4, seed);
        for (int k = 0; k < 6; k++) {
            h.move(1 + k % 3, 0);
        }
        List<Integer> due = ByHand.dueFront(h, 0);
        C.is("front", ByHand.front(h, 0).toString(), due.toString());
    }

    /** Members whose errors at the seen cases are told: a constant each, and what is wanted. */
    private static BreedingHouse constants(int seen) {
        BreedingHouse h = new BreedingHouse();
        for (int k = 0; k < seen; k++) {
            h.add(0, 0, 0, k, 1, false);
        }
        return h;
    }

    private static void oddsAre(BreedingHouse h, int place, int above, int below) {
        C.is("place " + place + " above", h.odds(0, place, 0), above);
        C.is("place " + place + " below", h.odds(0, place, 1), below);
    }

    /** A seed by which a population of trees of size 1 is these leaves: 0 .. 9 constants, then x, y, z, n. */
    private static long seedOf(int... leaves) {
        return seedOf(14L, leaves);
    }

    private static long seedOf(long trees, int... places) {
        for (long seed = 0; seed < 10_000_000; seed++) {
            Draws draws = new Draws(seed);
            boolean all = true;
            for (int k = 0; all && k < places.length; k++) {
                all = draws.wide(trees) == places[k];
            }
            if (all) {
                return seed;
            }
        }
        return -1;
    }

    private static void oddsOfOrders() {
        C.about("Promise 41", "of how many orders the MEMBER at a PLACE is the one (part 0), of how many (1), in "
                + "lowest terms");
        BreedingHouse h = constants(2);
        h.populate(0, 0, 2, 1, seedOf(0, 1));
        oddsAre(h, 0, 1, 2);
        oddsAre(h, 1, 1, 2);
        h.add(0, 0, 0, 9, 1, false);
        oddsAre(h, 0, 1, 3);
        oddsAre(h, 1, 2, 3);
        BreedingHouse g = constants(3);
        g.populate(0, 0, 4, 1, seedOf(2, 2, 0, 5));
        oddsAre(g, 0, 1, 2);
        oddsAre(g, 1, 0, 1);
        oddsAre(g, 2, 1, 2);
        oddsAre(g, 3, 0, 1);
    }

    private static void oddsWithoutCases() {
        C.about("Promise 41", "(without SEEN CASES there is one order)");
        BreedingHouse h = new BreedingHouse();
        h.populate(0, 0, 16, 1, 3);
        oddsAre(h, 0, 1, 1);
        oddsAre(h, 1, 0, 1);
        oddsAre(h, 15, 0, 1);
        h.add(0, 0, 0, 0, 1, true);
        oddsAre(h, 0, 1, 1);
    }

    private static void oddsOfSix() {
        C.about("Promise 41", "IllegalStateException: there are more than six SEEN CASES.");
        BreedingHouse h = constants(6);
        h.populate(0, 0, 3, 1, seedOf(0, 5, 3));
        for (int k = 0; k < 7; k++) {
            h.add(0, 0, 0, 0, 1, true);
        }
        // Of wants 0 .. 5 the constant 0 is nearest to 0, 1; 3 to 2, 3; 5 to 5; and 3 and 5 are as near to 4: then the
        // next case tells.
        oddsAre(h, 0, 1, 3);
        oddsAre(h, 1, 1, 5);
        oddsAre(h, 2, 7, 15);
        h.add(0, 0, 0, 0, 1, false);
        C.fails("seven", Check.STATE, () -> h.odds(0, 0, 0));
        C.fails("seven", Check.STATE, () -> h.odds(0, 2, 1));
        h.drop(0);
        C.is("six again", h.odds(0, 0, 1) > 0, true);
    }

    private static void oddsWrong() {
        C.about("Promise 41", "IllegalArgumentException: another part.");
        BreedingHouse h = new BreedingHouse();
        h.populate(0, 0, 1, 1, 3);
        for (int part : new int[] {-1, 2, LEAST, MOST}) {
            C.fails("part " + part, Check.ARGUMENT, () -> h.odds(0, 0, part));
        }
        oddsAre(h, 0, 1, 1);
    }

    private static void distances() {
        C.about("Promise 42", "how far their NUMBERS are, at most 1000000 each; 1000000 if one has a FAULT and the "
                + "other one none or another; 0 if both have the same.");
        BreedingHouse h = new BreedingHouse();
        int x = Check.tree(h, "x");
        int y = Check.tree(h, "y");
        C.is("without cases", h.distance(x, y), 0);
        int[][] due = {{0, 999999, 999999}, {1000000, 0, 1000000}, {0, 1000001, 1000000}, {LEAST, MOST, 1000000}, {MOST,
                LEAST, 1000000},
            {LEAST, LEAST, 0}, {MOST, MOST - 1, 1}, {0, LEAST, 1000000}};
        long sum = 0;
        for (int[] one : due) {
            h.add(one[0], one[1], 0, 0, 9, false);
            h.add(one[0], one[1], 0, 0, 9, true);
            sum += one[2];
            C.is("far", h.distance(x, y), sum);
            C.is("as far", h.distance(y, x), sum);
            C.is("from itself", h.distance(x, x), 0);
        }
        BreedingHouse g = new BreedingHouse();
        g.add(0, 0, 0, 0, 1, false);
        g.set(0, 10);
        int[] births = {Check.tree(g, "x"), Check.tree(g, "(/ 1 0)"), Check.tree(g, "(% 2 0)"), Check.tree(g, "(# 0)"),
            Check.tree(g, Trees.ofSize(11))};
        int[] faults = {0, 1, 1, 2, 3};
        for (int a = 0; a < 5; a++) {
            for (int b = 0; b < 5; b++) {
                C.is("faults " + faults[a] + " and " + faults[b], g.distance(births[a], births[b]), faults[a]
                        == faults[b] ? 0 : 1000000);
            }
        }
        for (int none : new int[] {-1, 5, LEAST, MOST}) {
            C.fails("a is " + none, Check.INDEX, () -> g.distance(none, 0));
            C.fails("b is " + none, Check.INDEX, () -> g.distance(0, none));
        }
    }

    private static void novelties() {
        C.about("Promise 43", "The sum of the three least distances of a MEMBER from those at the other PLACES of "
                + "its ISLAND");
        BreedingHouse h = new BreedingHouse();
        h.add(0, 0, 0, 0, 1, false);
        h.populate(0, 0, 5, 1, seedOf(1, 3, 7, 8, 2));
        int[] due = {1 + 2 + 6, 1 + 2 + 4, 1 + 4 + 5, 1 + 5 + 6, 1 + 1 + 5};
        for (int place = 0; place < 5; place++) {
            C.is("novelty of " + place, h.novelty(0, place), due[place]);
        }
        h.populate(0, 0, 4, 1, seedOf(1, 1, 1, 9));
        C.is("the same at other places is 0 away", h.novelty(0, 0), 8);
        C.is("three of eight", h.novelty(0, 3), 24);
        BreedingHouse far = new BreedingHouse();
        for (int k = 0; k < 24; k++) {
            far.add(MOST, LEAST, 0, 0, 1, false);
        }
        far.populate(0, 0, 4, 1, seedOf(10, 11, 11, 11));
        C.is("as far as can be", far.novelty(0, 0), 3 * 24000000L);
    }

    private static void noveltyOfFew() {
        C.about("Promise 43", "(of all, if there are fewer)");
        BreedingHouse h = new BreedingHouse();
        h.add(0, 0, 0, 0, 1, false);
        h.populate(0, 0, 1, 1, seedOf(5));
        C.is("alone", h.novelty(0, 0), 0);
        h.populate(0, 0, 2, 1, seedOf(5, 9));
        C.is("of two", h.novelty(0, 0), 4);
        C.is("of two", h.novelty(0, 1), 4);
        h.populate(0, 0, 3, 1, seedOf(5, 9, 2));
        C.is("of three", h.novelty(0, 0), 4 + 3);
        C.is("of three", h.novelty(0, 1), 4 + 7);
        h.populate(0, 0, 4, 1, seedOf(5, 9, 2, 0));
        C.is("of four", h.novelty(0, 0), 3 + 4 + 5);
        C.is("of four", h.novelty(0, 1), 4 + 7 + 9);
    }

    private static void lines() {
        C.about("Promise 44", "Of how many BIRTHS it comes: its PARENTS, theirs, and so on, each once.");
        BreedingHouse h = new BreedingHouse();
        int a = Check.tree(h, "x");
        C.is("of none", h.line(a), 0);
        int b = h.cross(a, a, 1);
        C.is("one parent twice counts once", h.line(b), 1);
        int c = h.cross(a, b, 1);
        C.is("a parent that is its parent's parent counts once", h.line(c), 2);
        int d = Check.tree(h, "y");
        int e = h.cross(c, d, 1);
        C.is("two lines", h.line(e), 4);
        C.is("the first of all is still of none", h.line(a), 0);
        C.is("nor does another line count", h.line(d), 0);
        int last = e;
        while (h.births() < 600) {
            last = h.cross(last, last, 1);
        }
        C.is("all others are ahead of the last", h.line(599), 599);
        for (int none : new int[] {-1, 600, LEAST, MOST}) {
            C.fails("birth " + none, Check.INDEX, () -> h.line(none));
        }
    }

    private static void forebears() {
        C.about("Promise 45", "The greatest BIRTH that is both, or of which both come (one may come of the other "
                + "one); -1 without.");
        BreedingHouse h = new BreedingHouse();
        int a = Check.tree(h, "x");
        int b = Check.tree(h, "y");
        int c = h.cross(a, b, 1);
        int d = h.simple(c);
        int e = h.minimal(c);
        int f = h.cross(b, a, 1);
        C.is("both are one", h.forebear(a, a), a);
        C.is("both are one, the last", h.forebear(f, f), f);
        C.is("without", h.forebear(a, b), -1);
        C.is("one comes of the other", h.forebear(c, a), a);
        C.is("one comes of the other", h.forebear(a, c), a);
        C.is("brothers", h.forebear(d, e), c);
        C.is("the greatest of two", h.forebear(f, e), b);
        C.is("the greatest of two", h.forebear(c, f), b);
        C.is("of its child", h.forebear(c, d), c);
        for (int none : new int[] {-1, 6, LEAST, MOST}) {
            C.fails("a is " + none, Check.INDEX, () -> h.forebear(none, 0));
            C.fails("b is " + none, Check.INDEX, () -> h.forebear(0, none));
        }
    }

    private static void gainIs(BreedingHouse h, int b, long above, long below) {
        C.is("above", h.gain(b, 0), above);
        C.is("below", h.gain(b, 1), below);
    }

    private static void gains() {
        C.about("Promise 46", "The SCORE over SEEN CASES of its first PARENT less its own, in lowest terms: what "
                + "stands above (part 0), below (1; above 0).");
        BreedingHouse h = new BreedingHouse();
        int a = Check.tree(h, "5");
        int more = h.edit(a, 0, 0);
        int less = h.edit(a, 0, 1);
        int same = h.simple(a);
        gainIs(h, more, 0, 1);
        h.add(0, 0, 0, 9, 2, true);
        gainIs(h, more, 0, 1);
        h.add(0, 0, 0, 9, 2, false);
        gainIs(h, more, 1, 1);
        gainIs(h, less, -1, 1);
        gainIs(h, same, 0, 1);
        h.add(0, 0, 0, 0, 4, false);
        gainIs(h, more, -1, 3);
        gainIs(h, less, 1, 3);
        gainIs(h, same, 0, 1);
        int fault = Check.tree(h, "(/ 1 0)");
        int x = Check.tree(h, "x");
        int crossed = -1;
        for (long seed = 0; crossed < 0; seed++) {
            crossed = new Draws(seed).draw(3) == 0 ? h.cross(fault, x, seed) : -1;
        }
        C.is("x itself", Check.print(h, crossed), "x");
        gainIs(h, crossed, 2000000 - 3, 1);
        gainIs(h, h.cross(x, x, 0), 0, 1);
    }

    private static void noGain() {
        C.about("Promise 46", "IllegalArgumentException: another part; it has no PARENT.");
        BreedingHouse h = new BreedingHouse();
        int a = Check.tree(h, "5");
        int child = h.simple(a);
        int[] without = {a, h.tree(1, 0), h.search(1), h.populate(0, 0, 1, 1, 0)};
        for (int b : without) {
            C.fails("birth " + b, Check.ARGUMENT, () -> h.gain(b, 0));
            C.fails("birth " + b, Check.ARGUMENT, () -> h.gain(b, 1));
        }
        for (int part : new int[] {-1, 2, LEAST, MOST}) {
            C.fails("part " + part, Check.ARGUMENT, () -> h.gain(child, part));
        }
        for (int none : new int[] {-1, 5, LEAST, MOST}) {
            C.fails("birth " + none, Check.INDEX, () -> h.gain(none, 0));
        }
        gainIs(h, child, 0, 1);
    }

    private static void replays() {
        C.about("Promise 47", "Whether a program of a WAY 3 or 4 comes anew of its PARENTS by HOW, the number of "
                + "EDIT or PAIR, or seed. IllegalArgumentException: it is of another WAY.");
        BreedingHouse h = new BreedingHouse();
        int t = Check.tree(h, "(+ x 5)");
        int m = Check.machine(h, "1:0000");
        int n = Check.net(h, "2:01");
        int[] alike = {h.edit(t, 0, 0), h.edit(t, 0, 4), h.change(t, 0, -1), h.change(t, 4, 5), h.change(m, 3, 0),
                h.cross(t, t, 9), h.cross(m, m, 9)};
        for (int b : alike) {
            C.is("birth " + b, h.replay(b), true);
        }
        int[] others = {t, h.tree(1, 0), h.search(1), h.populate(0, 0, 1, 1, 0), h.simple(t), h.minimal(t), h.compile(t,
                1), h.least(m), h.clean(n)};
        for (int b : others) {
            C.fails("way " + h.birth(b, 2), Check.ARGUMENT, () -> h.replay(b));
        }
        for (int none : new int[] {-1, 99, LEAST, MOST}) {
            C.fails("birth " + none, Check.INDEX, () -> h.replay(none));
        }
        int births = h.births();
        h.replay(alike[3]);
        C.is("no birth comes of it", h.births(), births);
        Check.fill(h, 600);
        C.is("it needs no room", h.replay(alike[5]), true);
    }
}
