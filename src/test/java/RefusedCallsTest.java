import java.util.ArrayList;
import java.util.List;
import java.util.function.Consumer;

/** Every call that the document refuses: what is thrown, of several the first, and that nothing has changed then. */
public final class RefusedCallsTest {
    private static final Check C = new Check();
    private static final Class<? extends RuntimeException> INDEX = Check.INDEX;
    private static final Class<? extends RuntimeException> ARGUMENT = Check.ARGUMENT;
    private static final Class<? extends RuntimeException> STATE = Check.STATE;

    /** A call, and what it must throw. */
    private record Refused(String name, Class<? extends RuntimeException> due, Consumer<BreedingHouse> call) {
    }

    private static final List<Refused> CALLS = new ArrayList<>();

    public static void main(String[] args) {
        C.about("Throws", "IndexOutOfBoundsException: no such BIRTH, CASE, ISLAND, MEMBER, EDIT; "
                + "IllegalArgumentException: as told; IllegalStateException: there is no room, or as told.");
        noSuchBirth();
        noSuchOther();
        asTold();
        tryAll(false);
        tryAll(true);
        CALLS.clear();
        asToldWithRoom();
        tryAll(false);
        CALLS.clear();
        noRoom();
        tryAll(true);
        CALLS.clear();
        C.about("Throws", "Of several the one that stands first behind \"throws\" is thrown; a call that throws "
                + "changes nothing.");
        firstOfTwo();
        tryAll(false);
        firstOfAll();
        tryAll(true);
        leavesTheStreams();
        C.end();
    }

    /** A house with some of everything; a full one has 600 births and 24 cases. */
    private static BreedingHouse house(boolean full) {
        BreedingHouse h = new BreedingHouse();
        Check.tree(h, "(+ x (~ 5))");
        Check.code(h, "x 5 ~ +");
        Check.machine(h, "1:0101;2:1111");
        Check.net(h, "4:01,12");
        for (int k = 0; k < (full ? 24 : 9); k++) {
            Check.put(h, k, -k);
            h.add(k, 2 * k, 3, k * k, 1 + k % 9, k % 8 == 7);
        }
        h.populate(0, 0, 3, 4, 11);
        h.populate(1, 1, 2, 4, 12);
        h.set(0, 150);
        h.set(1, 2);
        h.set(2, 4);
        h.set(3, 44);
        h.set(4, 1);
        h.simple(0);
        h.equal(0, 1);
        h.equal(2, h.least(2));
        h.ask(0, 7, 8, 9);
        if (full) {
            Check.fill(h, 600);
        }
        Check.type(h, "(~ (~ ");
        Check.put(h, 4, -7, 100);
        return h;
    }

    private static void refused(String name, Class<? extends RuntimeException> due, Consumer<BreedingHouse> call) {
        CALLS.add(new Refused(name, due, call));
    }

    private static void tryAll(boolean full) {
        String due = Sight.of(house(full));
        for (Refused one : CALLS) {
            BreedingHouse h = house(full);
            String name = one.name() + (full ? ", full" : "");
            C.fails(name, one.due(), () -> one.call().accept(h));
            C.is(name + ": nothing has changed", Sight.of(h).equals(due), true);
        }
        C.is("some were tried", CALLS.size() > 5, true);
    }

    private static void noSuchBirth() {
        for (int b : new int[] {-1, 600, Integer.MIN_VALUE, Integer.MAX_VALUE}) {
            refused("printed", INDEX, h -> h.printed(b));
            refused("letter", INDEX, h -> h.letter(b, 0));
            refused("birth", INDEX, h -> h.birth(b, 0));
            refused("seed", INDEX, h -> h.seed(b));
            refused("item", INDEX, h -> h.item(b, 0, 0));
            refused("same", INDEX, h -> h.same(b, 0));
            refused("same", INDEX, h -> h.same(0, b));
            refused("place", INDEX, h -> h.place(b));
            refused("run", INDEX, h -> h.run(b, 0));
            refused("ask", INDEX, h -> h.ask(b, 1, 2, 3));
            refused("error", INDEX, h -> h.error(b, 0));
            refused("score", INDEX, h -> h.score(b, false, 0));
            refused("overfit", INDEX, h -> h.overfit(b, 0));
            refused("hits", INDEX, h -> h.hits(b, false));
            refused("compare", INDEX, h -> h.compare(b, 0));
            refused("compare", INDEX, h -> h.compare(0, b));
            refused("edits", INDEX, h -> h.edits(b, 0));
            refused("edit", INDEX, h -> h.edit(b, 0, 0));
            refused("change", INDEX, h -> h.change(b, 0, 1));
            refused("pairs", INDEX, h -> h.pairs(b, 0));
            refused("pairs", INDEX, h -> h.pairs(0, b));
            refused("cross", INDEX, h -> h.cross(b, 0, 1));
            refused("cross", INDEX, h -> h.cross(0, b, 1));
            refused("distance", INDEX, h -> h.distance(b, 0));
            refused("distance", INDEX, h -> h.distance(0, b));
            refused("line", INDEX, h -> h.line(b));
            refused("forebear", INDEX, h -> h.forebear(b, 0));
            refused("forebear", INDEX, h -> h.forebear(0, b));
            refused("gain", INDEX, h -> h.gain(b, 0));
            refused("replay", INDEX, h -> h.replay(b));
            refused("simple", INDEX, h -> h.simple(b));
            refused("proves", INDEX, h -> h.proves(b, 0));
            refused("proves", INDEX, h -> h.proves(0, b));
            refused("equal", INDEX, h -> h.equal(b, 0));
            refused("equal", INDEX, h -> h.equal(0, b));
            refused("minimal", INDEX, h -> h.minimal(b));
            refused("robust", INDEX, h -> h.robust(b, 0, 0));
            refused("compile", INDEX, h -> h.compile(b, 1));
            refused("least", INDEX, h -> h.least(b));
            refused("clean", INDEX, h -> h.clean(b));
            refused("unsorted", INDEX, h -> h.unsorted(b));
            refused("layers", INDEX, h -> h.layers(b));
        }
    }

    private static void noSuchOther() {
        for (int k : new int[] {-1, 24, Integer.MIN_VALUE, Integer.MAX_VALUE}) {
            refused("item", INDEX, h -> h.item(0, k, 0));
            refused("drop", INDEX, h -> h.drop(k));
            refused("told", INDEX, h -> h.told(k, 0));
            refused("run", INDEX, h -> h.run(0, k));
            refused("error", INDEX, h -> h.error(0, k));
            refused("edit", INDEX, h -> h.edit(0, 0, k));
            refused("populate", INDEX, h -> h.populate(k, 0, 1, 1, 5));
            refused("members", INDEX, h -> h.members(k));
            refused("member", INDEX, h -> h.member(k, 0));
            refused("member", INDEX, h -> h.member(0, k));
            refused("breed", INDEX, h -> h.breed(k, 1));
            refused("move", INDEX, h -> h.move(k, 0));
            refused("move", INDEX, h -> h.move(0, k));
            refused("best", INDEX, h -> h.best(k));
            refused("front", INDEX, h -> h.front(k, 0));
            refused("odds", INDEX, h -> h.odds(k, 0, 0));
            refused("odds", INDEX, h -> h.odds(0, k, 0));
            refused("novelty", INDEX, h -> h.novelty(k, 0));
            refused("novelty", INDEX, h -> h.novelty(0, k));
        }
    }

    private static void asTold() {
        for (int k : new int[] {-1, 15, Integer.MIN_VALUE, Integer.MAX_VALUE}) {
            refused("read", ARGUMENT, h -> h.read(k));
            refused("birth", ARGUMENT, h -> h.birth(0, k));
            refused("item", ARGUMENT, h -> h.item(0, 0, k));
            refused("trees", ARGUMENT, h -> h.trees(k));
            refused("tree", ARGUMENT, h -> h.tree(k, 0));
            refused("tree", ARGUMENT, h -> h.tree(1, k));
            refused("add", ARGUMENT, h -> h.add(1, 2, 3, 4, k, false));
            refused("told", ARGUMENT, h -> h.told(0, k));
            refused("score", ARGUMENT, h -> h.score(0, true, k));
            refused("overfit", ARGUMENT, h -> h.overfit(0, k));
            refused("set", ARGUMENT, h -> h.set(k, 1));
            refused("set", ARGUMENT, h -> h.set(4, k));
            refused("edits", ARGUMENT, h -> h.edits(0, k));
            refused("edit", ARGUMENT, h -> h.edit(0, k, 0));
            refused("change", ARGUMENT, h -> h.change(0, k, 1));
            refused("populate", ARGUMENT, h -> h.populate(0, k, 1, 2, 5));
            refused("populate", ARGUMENT, h -> h.populate(0, 0, 1, k, 5));
            refused("odds", ARGUMENT, h -> h.odds(0, 0, k));
            refused("gain", ARGUMENT, h -> h.gain(9, k));
            refused("search", ARGUMENT, h -> h.search(k));
            refused("witness", ARGUMENT, h -> h.witness(k));
            refused("robust", ARGUMENT, h -> h.robust(0, k, 0));
            refused("robust", ARGUMENT, h -> h.robust(0, 0, k));
            refused("compile", ARGUMENT, h -> h.compile(0, k));
        }
        refused("populate", ARGUMENT, h -> h.populate(0, 0, 17, 2, 5));
        refused("populate", ARGUMENT, h -> h.populate(0, 0, 0, 2, 5));
        refused("breed", ARGUMENT, h -> h.breed(0, 0));
        refused("breed", ARGUMENT, h -> h.breed(0, 21));
        refused("place", ARGUMENT, h -> h.place(1));
        refused("change", ARGUMENT, h -> h.change(1, 4, 1));
        refused("cross", ARGUMENT, h -> h.cross(0, 1, 1));
        refused("gain", ARGUMENT, h -> h.gain(0, 0));
        refused("replay", ARGUMENT, h -> h.replay(0));
        refused("simple", ARGUMENT, h -> h.simple(1));
        refused("compile", ARGUMENT, h -> h.compile(2, 1));
        refused("least", ARGUMENT, h -> h.least(0));
        refused("clean", ARGUMENT, h -> h.clean(0));
        refused("unsorted", ARGUMENT, h -> h.unsorted(0));
        refused("layers", ARGUMENT, h -> h.layers(0));
    }

    private static void asToldWithRoom() {
        refused("breed without members", STATE, h -> h.breed(2, 1));
        refused("best without members", STATE, h -> h.best(2));
        refused("odds of eight", STATE, h -> h.odds(0, 0, 0));
        refused("case 9", INDEX, h -> h.run(0, 9));
        refused("birth behind the last", INDEX, h -> h.seed(h.births()));
        refused("member 3", INDEX, h -> h.member(0, 3));
    }

    private static void noRoom() {
        refused("read", STATE, h -> h.read(0));
        refused("tree", STATE, h -> h.tree(1, 0));
        refused("add", STATE, h -> h.add(1, 2, 3, 4, 5, false));
        refused("edit", STATE, h -> h.edit(0, 0, 0));
        refused("change", STATE, h -> h.change(0, 0, 1));
        refused("change by 4", STATE, h -> h.change(0, 4, 1));
        refused("cross", STATE, h -> h.cross(0, 0, 1));
        refused("populate", STATE, h -> h.populate(0, 0, 1, 1, 5));
        refused("breed", STATE, h -> h.breed(0, 1));
        refused("search", STATE, h -> h.search(1));
        refused("simple", STATE, h -> h.simple(0));
        refused("minimal", STATE, h -> h.minimal(1));
        refused("compile", STATE, h -> h.compile(0, 1));
        refused("compile", STATE, h -> h.compile(1, 0));
        refused("least", STATE, h -> h.least(2));
        refused("clean", STATE, h -> h.clean(3));
        refused("odds", STATE, h -> h.odds(0, 0, 0));
        refused("breed without members", STATE, h -> h.breed(2, 1));
    }

    /** Calls that two of the exceptions are due to: an index stands ahead of an argument. */
    private static void firstOfTwo() {
        refused("birth", INDEX, h -> h.birth(600, 9));
        refused("item", INDEX, h -> h.item(600, 0, 5));
        refused("item", INDEX, h -> h.item(0, 4, 5));
        refused("told", INDEX, h -> h.told(24, 15));
        refused("score", INDEX, h -> h.score(600, true, 2));
        refused("overfit", INDEX, h -> h.overfit(600, 2));
        refused("edits", INDEX, h -> h.edits(600, 4));
        refused("edit", INDEX, h -> h.edit(600, 4, 0));
        refused("edit: another how is told ahead", ARGUMENT, h -> h.edit(0, 4, 99));
        refused("change", INDEX, h -> h.change(600, 5, 1));
        refused("cross", INDEX, h -> h.cross(0, 600, 1));
        refused("populate", INDEX, h -> h.populate(4, 9, 0, 0, 5));
        refused("breed", INDEX, h -> h.breed(4, 0));
        refused("breed without members", ARGUMENT, h -> h.breed(2, 0));
        refused("odds", INDEX, h -> h.odds(4, 0, 2));
        refused("odds", INDEX, h -> h.odds(0, 3, 2));
        refused("odds of eight", ARGUMENT, h -> h.odds(0, 0, 2));
        refused("odds of eight", INDEX, h -> h.odds(0, 3, 0));
        refused("gain", INDEX, h -> h.gain(600, 2));
        refused("robust", INDEX, h -> h.robust(600, 4, 3));
        refused("compile", INDEX, h -> h.compile(600, 7));
    }

    /** In a full house all three are due to some. */
    private static void firstOfAll() {
        refused("read", ARGUMENT, h -> h.read(4));
        refused("tree", ARGUMENT, h -> h.tree(1, 14));
        refused("tree", ARGUMENT, h -> h.tree(13, 0));
        refused("add", ARGUMENT, h -> h.add(1, 2, 3, 4, 10, false));
        refused("edit", INDEX, h -> h.edit(600, 0, 0));
        refused("edit", ARGUMENT, h -> h.edit(0, 4, 0));
        refused("edit", INDEX, h -> h.edit(0, 0, 5));
        refused("change", INDEX, h -> h.change(-1, 0, 1));
        refused("change", ARGUMENT, h -> h.change(0, 5, 1));
        refused("change", ARGUMENT, h -> h.change(1, 4, 1));
        refused("cross", INDEX, h -> h.cross(600, 0, 1));
        refused("cross", ARGUMENT, h -> h.cross(0, 1, 1));
        refused("populate", INDEX, h -> h.populate(4, 0, 1, 1, 5));
        refused("populate", ARGUMENT, h -> h.populate(0, 0, 1, 10, 5));
        refused("populate", ARGUMENT, h -> h.populate(0, 4, 1, 1, 5));
        refused("populate", ARGUMENT, h -> h.populate(0, 0, 17, 1, 5));
        refused("breed", INDEX, h -> h.breed(4, 1));
        refused("breed", ARGUMENT, h -> h.breed(0, 21));
        refused("search", ARGUMENT, h -> h.search(6));
        refused("simple", INDEX, h -> h.simple(600));
        refused("simple", ARGUMENT, h -> h.simple(1));
        refused("minimal", INDEX, h -> h.minimal(600));
        refused("compile", INDEX, h -> h.compile(600, 1));
        refused("compile", ARGUMENT, h -> h.compile(0, 0));
        refused("least", INDEX, h -> h.least(600));
        refused("least", ARGUMENT, h -> h.least(0));
        refused("clean", INDEX, h -> h.clean(600));
        refused("clean", ARGUMENT, h -> h.clean(0));
    }

    /** What is refused for want of room draws nothing. */
    private static void leavesTheStreams() {
        BreedingHouse h = new BreedingHouse();
        BreedingHouse still = new BreedingHouse();
        for (BreedingHouse one : new BreedingHouse[] {h, still}) {
            one.populate(0, 0, 16, 3, 77);
            Check.fill(one, 560);
        }
        C.fails("3 times 15", STATE, () -> h.breed(0, 3));
        C.fails("no room for 16", STATE, () -> {
            h.breed(0, 2);
            h.populate(0, 0, 16, 3, 1);
        });
        still.breed(0, 2);
        C.is("all is alike", Sight.of(h).equals(Sight.of(still)), true);
    }
}
