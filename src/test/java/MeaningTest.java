/** What is made simple, turned, lessened or cleaned has the same OUTCOME as what it comes of, and equal() doesn't err.
// */
public final class MeaningTest {
    private static final Check C = new Check();
    private static final int[] NUMBERS = {0, 1, -1, 2, 7, -9, 99, Integer.MAX_VALUE, Integer.MIN_VALUE};

    public static void main(String[] args) {
        for (int seed = 0; seed < 300; seed++) {
            BreedingHouse h = new BreedingHouse();
            h.set(0, 2000);
            trees(h, seed);
            code(h, seed);
            machines(h, seed);
            nets(h, seed);
        }
        C.end();
    }

    /** A program that has come of some changes. */
    private static int drawn(BreedingHouse h, int kind, int seed) {
        int b = h.populate(0, kind, 1, 2 + seed % (kind == 2 ? 5 : 7), seed);
        for (int k = 0; k < 8; k++) {
            b = h.change(b, kind == 0 && k % 2 == 0 ? 4 : k % 4, 77L * seed + k);
        }
        return b;
    }

    private static void alike(BreedingHouse h, int a, int b, int seed) {
        Draws draws = new Draws(seed);
        BreedingHouse asked = new BreedingHouse();
        asked.set(0, 2000);
        int p = Check.read(asked, h.birth(a, 0), Check.print(h, a));
        int q = Check.read(asked, h.birth(b, 0), Check.print(h, b));
        for (int length = 0; length <= 8; length++) {
            int x = NUMBERS[draws.draw(9)];
            int y = NUMBERS[draws.draw(9)];
            int z = NUMBERS[draws.draw(9)];
            String name = Check.print(h, a) + " and " + Check.print(h, b) + " of " + x + ", " + y + ", " + z + ", "
                    + length;
            int fault = asked.ask(p, x, y, z);
            int value = asked.value();
            C.is("fault of " + name, asked.ask(q, x, y, z), fault);
            C.is("value of " + name, asked.value(), value);
            asked.put(NUMBERS[draws.draw(9)]);
        }
        C.is("equal() of " + Check.print(h, a) + " and " + Check.print(h, b), h.equal(a, b) != 0, true);
    }

    private static void trees(BreedingHouse h, int seed) {
        int tree = drawn(h, 0, seed);
        int simple = h.simple(tree);
        alike(h, tree, simple, seed);
        C.is("its rows lead there", h.proves(tree, simple), true);
        C.is("it is EQUAL", h.equal(tree, simple), 1);
        C.is("no rule fits any more", rowsOf(h, simple), 0);
        int code = h.compile(tree, 1);
        if (code >= 0) {
            alike(h, tree, code, seed);
        }
    }

    private static int rowsOf(BreedingHouse h, int b) {
        h.simple(b);
        return h.rows();
    }

    private static void code(BreedingHouse h, int seed) {
        int code = drawn(h, 1, seed);
        int tree = h.compile(code, 0);
        if (tree >= 0) {
            alike(h, code, tree, seed);
            C.is("code and its tree", h.equal(code, tree), 1);
        }
    }

    private static void machines(BreedingHouse h, int seed) {
        int machine = drawn(h, 2, seed);
        int least = h.least(machine);
        alike(h, machine, least, seed);
        C.is("it has no more states", h.birth(least, 1) <= h.birth(machine, 1), true);
        C.is("the least is the least", h.same(least, h.least(least)), true);
        int other = drawn(h, 2, seed + 1);
        if (h.equal(machine, other) == 0) {
            told(h, machine, other);
        }
    }

    private static void nets(BreedingHouse h, int seed) {
        int net = drawn(h, 3, seed);
        int clean = h.clean(net);
        alike(h, net, clean, seed);
        C.is("what isn't in order stays so", h.unsorted(clean), h.unsorted(net));
        int other = h.change(net, 0, seed);
        if (h.equal(net, other) == 0) {
            told(h, net, other);
        }
    }

    /** The row that equal() tells shows that two aren't alike, if a case can have it. */
    private static void told(BreedingHouse h, int a, int b) {
        if (h.witness(3) > 8 || h.cases() == 24) {
            return;
        }
        for (int k = 0; k < h.witness(3); k++) {
            h.put(h.witness(4 + k));
        }
        int k = h.add(h.witness(0), h.witness(1), h.witness(2), 0, 1, true);
        h.run(a, k);
        int value = h.value();
        h.run(b, k);
        C.is("told apart", h.value() != value, true);
    }
}
