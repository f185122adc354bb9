/** Promises 44 to 47: line, forebear, gain, replay. */
public final class PedigreesTest {
    private static final Check C = new Check();

    public static void main(String[] args) {
        lines();
        gains();
        replays();
        C.end();
    }

    private static void lines() {
        BreedingHouse h = new BreedingHouse();
        int a = Check.tree(h, "(+ x 1)");
        int b = Check.tree(h, "(* y 2)");
        int c = h.cross(a, b, 1);
        int d = h.change(c, 0, 2);
        int e = h.change(c, 2, 3);
        int f = h.cross(d, e, 4);
        int g = h.cross(f, f, 5);
        int s = h.simple(g);
        C.is("of none", h.line(a), 0);
        C.is("of two", h.line(c), 2);
        C.is("of three", h.line(d), 3);
        C.is("each once", h.line(f), 5);
        C.is("one parent twice", h.line(g), 6);
        C.is("simple, too", h.line(s), 7);
        C.is("itself", h.forebear(f, f), f);
        C.is("one comes of the other", h.forebear(s, c), c);
        C.is("one comes of the other", h.forebear(c, s), c);
        C.is("brothers", h.forebear(d, e), c);
        C.is("none", h.forebear(a, b), -1);
        C.is("parent", h.forebear(a, f), a);
        int x = h.edit(b, 0, 0);
        C.is("far", h.forebear(x, s), b);
        C.is("compile, too", h.forebear(h.compile(x, 1), s), b);
        C.fails("no birth", Check.INDEX, () -> h.line(h.births()));
        C.fails("no birth", Check.INDEX, () -> h.line(-1));
        C.fails("no birth", Check.INDEX, () -> h.forebear(0, 99));
        C.fails("no birth", Check.INDEX, () -> h.forebear(-1, 0));
    }

    private static void gains() {
        BreedingHouse h = new BreedingHouse();
        int a = Check.tree(h, "(+ x 5)");
        int b = h.edit(a, 0, 0);
        h.add(1, 0, 0, 6, 1, false);
        h.add(1, 0, 0, 10, 2, false);
        C.is("8/3 - 7/3", h.gain(b, 0), 1);
        C.is("3", h.gain(b, 1), 3);
        int c = h.edit(a, 0, 1);
        C.is("8/3 - 11/3", h.gain(c, 0), -1);
        C.is("in lowest terms", h.gain(c, 1), 1);
        int t = Check.tree(h, "x");
        int crossed = h.cross(a, t, 0);
        C.is("of the first parent", h.gain(crossed, 0) * h.score(crossed, false, 1) * h.score(a, false, 1),
                (h.score(a, false, 0) * h.score(crossed, false, 1) - h.score(crossed, false, 0) * h.score(a, false, 1))
                        * h.gain(crossed, 1));
        C.is("of simple", h.gain(h.simple(a), 0), 0);
        C.fails("no parent", Check.ARGUMENT, () -> h.gain(a, 0));
        C.fails("part 2", Check.ARGUMENT, () -> h.gain(b, 2));
        C.fails("part -1", Check.ARGUMENT, () -> h.gain(b, -1));
        C.fails("no birth", Check.INDEX, () -> h.gain(99, 2));
    }

    private static void replays() {
        BreedingHouse h = new BreedingHouse();
        h.add(1, 2, 3, 4, 1, false);
        for (int kind = 0; kind < 4; kind++) {
            h.populate(kind, kind, 6, 4, kind);
            h.breed(kind, 4);
        }
        int tried = 0;
        for (int b = 0; b < h.births(); b++) {
            int birth = b;
            if (h.birth(b, 2) == 2) {
                C.fails("of way 2", Check.ARGUMENT, () -> h.replay(birth));
            } else {
                C.is("replay", h.replay(b), true);
                tried++;
            }
        }
        C.is("many were tried", tried, 4 * 4 * 5);
        int x = Check.tree(h, "x");
        C.is("edit", h.replay(h.edit(x, 1, 2)), true);
        C.is("without edits", h.replay(h.change(x, 0, 5)), true);
        int m = Check.machine(h, "4:0000");
        C.is("without pairs", h.replay(h.cross(m, m, 5)), true);
        C.fails("of way 0", Check.ARGUMENT, () -> h.replay(x));
        C.fails("of way 5", Check.ARGUMENT, () -> h.replay(h.simple(x)));
        C.fails("of way 7", Check.ARGUMENT, () -> h.replay(h.least(m)));
        C.fails("no birth", Check.INDEX, () -> h.replay(-1));
    }
}
