/** The 600th birth has room by every way, the 601st by none; and no call throws but as it is told. */
public final class LimitsTest {
    private static final Check C = new Check();
    private static final String[] TEXTS = {"(+ x (~ 5))", "x 5 ~ +", "1:0101;2:1111", "4:01,12"};

    public static void main(String[] args) {
        for (int maker = 0; maker < 13; maker++) {
            lastBirth(maker);
        }
        oddNumbers();
        throwsChangeNothing();
        C.end();
    }

    private static int make(BreedingHouse h, int maker) {
        switch (maker) {
            case 0:
                Check.type(h, "x");
                return h.read(0);
            case 1: return h.tree(2, 3);
            case 2: return h.search(2);
            case 3: return h.populate(0, 2, 1, 3, 4);
            case 4: return h.edit(0, 0, 1);
            case 5: return h.change(1, 1, 9);
            case 6: return h.cross(3, 3, 9);
            case 7: return h.simple(0);
            case 8: return h.minimal(1);
            case 9: return h.compile(0, 1);
            case 10: return h.least(2);
            case 11: return h.clean(3);
            default: return h.change(0, 4, 9);
        }
    }

    private static void lastBirth(int maker) {
        BreedingHouse h = new BreedingHouse();
        for (int kind = 0; kind < 4; kind++) {
            Check.read(h, kind, TEXTS[kind]);
        }
        Check.fill(h, 599);
        C.is("maker " + maker + " makes the last", make(h, maker), 599);
        C.is("600", h.births(), 600);
        C.fails("maker " + maker + " makes no more", Check.STATE, () -> make(h, maker));
        C.is("still 600", h.births(), 600);
        C.fails("birth 600", Check.INDEX, () -> h.printed(600));
        C.fails("birth 600", Check.INDEX, () -> h.birth(600, 0));
        C.is("the last one stands", h.printed(599) > 0, true);
        h.set(1, 0);
        C.fails("no room for children", Check.STATE, () -> h.breed(3, 1));
    }

    /** The oddest numbers everywhere: nothing but what is told is thrown. */
    private static void oddNumbers() {
        int[] odd = {Integer.MIN_VALUE, -1, 0, 1, 2, 3, 4, 5, 8, 9, 15, 600, Integer.MAX_VALUE};
        BreedingHouse h = new BreedingHouse();
        for (int kind = 0; kind < 4; kind++) {
            Check.read(h, kind, TEXTS[kind]);
        }
        h.add(Integer.MIN_VALUE, -1, Integer.MAX_VALUE, Integer.MIN_VALUE, 9, false);
        h.populate(0, 0, 2, 2, 0);
        for (int a : odd) {
            for (int b : odd) {
                for (int c : odd) {
                    for (int call = 0; call < 40; call++) {
                        tried(h, call, a, b, c);
                    }
                }
            }
        }
    }

    private static void tried(BreedingHouse h, int call, int a, int b, int c) {
        try {
            odd(h, call, a, b, c);
        } catch (IndexOutOfBoundsException | IllegalArgumentException | IllegalStateException e) {
            boolean own = e.getStackTrace()[0].getClassName().startsWith("BreedingHouse");
            boolean plain = e.getClass() != ArrayIndexOutOfBoundsException.class
                    && e.getClass() != StringIndexOutOfBoundsException.class;
            C.is("call " + call + " of " + a + ", " + b + ", " + c + " throws of itself: " + e, own && plain, true);
        }
    }

    private static void odd(BreedingHouse h, int call, int a, int b, int c) {
        switch (call) {
            case 0: h.letter(a, b); break;
            case 1: h.birth(a, b); break;
            case 2: h.item(a, b, c); break;
            case 3: h.same(a, b); break;
            case 4: h.trees(a); break;
            case 5: h.place(a); break;
            case 6: h.told(a, b); break;
            case 7: h.run(a, b); break;
            case 8: h.ask(a, b, c, b); break;
            case 9: h.error(a, b); break;
            case 10: h.score(a, b > 0, c); break;
            case 11: h.overfit(a, b); break;
            case 12: h.hits(a, b > 0); break;
            case 13: h.compare(a, b); break;
            case 14: h.edits(a, b); break;
            case 15: h.pairs(a, b); break;
            case 16: h.members(a); break;
            case 17: h.member(a, b); break;
            case 18: h.move(a, b); break;
            case 19: h.best(a); break;
            case 20: h.front(a, b); break;
            case 21: h.odds(a, b, c); break;
            case 22: h.distance(a, b); break;
            case 23: h.novelty(a, b); break;
            case 24: h.line(a); break;
            case 25: h.forebear(a, b); break;
            case 26: h.gain(a, b); break;
            case 27: h.replay(a); break;
            case 28: h.row(a, b); break;
            case 29: h.proves(a, b); break;
            case 30: h.equal(a, b); break;
            case 31: h.witness(a); break;
            case 32: h.robust(a, b, c); break;
            case 33: h.unsorted(a); break;
            case 34: h.layers(a); break;
            case 35: h.set(a, b); break;
            case 36: h.drop(a - 1); h.add(b, c, a, b, 1, false); break;
            case 37: h.read(a); break;
            case 38: h.type(a); h.type(b); break;
            default: made(h, a, b, c); break;
        }
    }

    private static void made(BreedingHouse h, int a, int b, int c) {
        if (h.births() > 560) {
            return;
        }
        switch ((a ^ b ^ c) & 7) {
            case 0: h.tree(a, b); break;
            case 1: h.edit(a, b, c); break;
            case 2: h.change(a, b, c); break;
            case 3: h.cross(a, b, c); break;
            case 4: h.populate(a, b, c, 2, a); break;
            case 5: h.breed(a, b); break;
            case 6: h.compile(a, b); break;
            default: h.search(a); h.simple(a); h.minimal(b); h.least(b); h.clean(c); break;
        }
    }

    private static void throwsChangeNothing() {
        BreedingHouse h = new BreedingHouse();
        BreedingHouse still = new BreedingHouse();
        for (BreedingHouse one : new BreedingHouse[] {h, still}) {
            one.add(1, 2, 3, 4, 5, false);
            one.populate(0, 0, 5, 4, 11);
            one.populate(1, 1, 5, 4, 12);
        }
        C.fails("breed", Check.ARGUMENT, () -> h.breed(0, 0));
        C.fails("breed", Check.STATE, () -> h.breed(2, 1));
        C.fails("populate", Check.ARGUMENT, () -> h.populate(0, 0, 3, 10, 5));
        C.fails("populate", Check.ARGUMENT, () -> h.populate(0, 3, 3, 1, 5));
        C.fails("odds", Check.ARGUMENT, () -> h.odds(0, 0, 3));
        C.fails("set", Check.ARGUMENT, () -> h.set(3, 101));
        C.fails("edit", Check.INDEX, () -> h.edit(0, 2, 99));
        C.fails("simple", Check.ARGUMENT, () -> h.simple(5));
        for (int island = 0; island < 2; island++) {
            C.is("bred alike", h.breed(island, 3), still.breed(island, 3));
        }
        C.is("births", h.births(), still.births());
        for (int b = 0; b < h.births(); b++) {
            C.is("birth " + b, Check.print(h, b), Check.print(still, b));
        }
    }
}
