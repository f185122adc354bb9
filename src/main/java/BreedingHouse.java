import java.util.Arrays;

/** A house in which programs are bred, judged by exact scores and understood. */
public final class BreedingHouse {
    private static final int TREE = 0;
    private static final int CODE = 1;
    private static final int MACHINE = 2;
    private static final int NET = 3;

    private static final int MOST_BIRTHS = 600;
    private static final int MOST_ITEMS = 60;
    private static final int MOST_DEPTH = 12;
    private static final int MOST_HEIGHT = 8;
    private static final int MOST_STATES = 6;
    private static final int MOST_COMPARATORS = 40;
    private static final int MOST_MEMBERS = 16;
    private static final int MOST_CASES = 24;
    private static final int MOST_TEXT = 240;
    private static final int MOST_ROW = 8;
    private static final int MOST_ORDERED = 12;
    private static final int MOST_CONSTANT = 99;
    private static final int CLASSES = 4;

    // Sorts of a tree's nodes.
    private static final int CONSTANT = 0;
    private static final int INPUT_X = 1;
    private static final int INPUT_Y = 2;
    private static final int INPUT_Z = 3;
    private static final int ROW_LENGTH = 4;
    private static final int CARRIED = 5;
    private static final int EACH = 6;
    private static final int LESS = 7;
    private static final int AT = 8;
    private static final int NOT = 9;
    private static final int PLUS = 10;
    private static final int MINUS = 11;
    private static final int TIMES = 12;
    private static final int OVER = 13;
    private static final int REST = 14;
    private static final int BELOW = 15;
    private static final int SAME = 16;
    private static final int AND = 17;
    private static final int OR = 18;
    private static final int FOLD = 19;
    private static final int IF = 20;
    private static final int SORTS = 21;

    // Sorts of instructions; the leaves are those of trees.
    private static final int CODE_LESS = 5;
    private static final int CODE_AT = 6;
    private static final int CODE_PLUS = 7;
    private static final int CODE_MINUS = 8;
    private static final int CODE_TIMES = 9;
    private static final int CODE_SAME = 13;
    private static final int DOUBLE = 14;
    private static final int SWAP = 15;
    private static final int TAKE = 16;
    private static final int JUMP = 17;
    private static final int BRANCH = 18;

    // Ways in which births come.
    private static final int BY_READ = 0;
    private static final int BY_ORDER = 1;
    private static final int BY_POPULATE = 2;
    private static final int BY_CHANGE = 3;
    private static final int BY_CROSS = 4;
    private static final int BY_SIMPLE = 5;
    private static final int BY_MINIMAL = 6;
    private static final int BY_TURN = 7;
    private static final int REGROWTH = 4;

    // How a case lies in a row of numbers, which is also how told() counts.
    private static final int CASE_WIDTH = 15;
    private static final int CASE_WANT = 3;
    private static final int CASE_WEIGHT = 4;
    private static final int CASE_HIDDEN = 5;
    private static final int CASE_LENGTH = 6;
    private static final int CASE_ROW = 7;

    private static final int SET_LIMIT = 0;
    private static final int SET_ELITES = 1;
    private static final int SET_TOURNAMENT = 2;
    private static final int SET_CROSSING = 3;
    private static final int SET_CHOICE = 4;
    private static final int[] SET_LEAST = {10, 0, 1, 0, 0};
    private static final int[] SET_MOST = {2000, 4, 5, 100, 2};

    private static final int FAULT_QUOTIENT = 1;
    private static final int FAULT_PLACE = 2;
    private static final int FAULT_LIMIT = 3;
    private static final int MOST_GAP = 1000000;
    private static final int FAULT_ERROR = 2000000;
    // Above any distance: 24 cases count at most 1000000 each.
    private static final long FARTHEST = 100000000L;

    private static final String TREE_LEAVES = "xyznse";
    private static final String TREE_SIGNS = "~#!+-*/%<=&|@?";
    private static final String CODE_SIGNS = "xyzn~#+-*/%<=dwo";

    // Where the trees of each size begin in search()'s tables: 14, 28, 1036 and 5992 trees of sizes 1 to 4.
    private static final int[] SEARCH_FROM = {0, 0, 14, 42, 1078, 7070};
    private static final int SEARCH_ROOM = 7070;

    private final Program[] born = new Program[MOST_BIRTHS];
    private int bornCount = 0;
    private final Texts texts = new Texts();
    private final Judge judge = new Judge();
    private final int[] settings = {200, 1, 3, 30, 0};
    private final Island[] islands = {new Island(), new Island(), new Island(), new Island()};
    private final Ranks ranks = new Ranks();
    private final Changer changer = new Changer();
    private final Rules rules = new Rules();
    private final Turner turner = new Turner();
    private final int[] draft = new int[CASE_WIDTH];
    private final int[] trial = new int[CASE_WIDTH];
    private int lastValue = 0;
    private int lastSteps = 0;
    private final int[] unlikeRow = new int[CASE_WIDTH];
    private final Program spare = new Program(2 * MOST_ITEMS);
    private final Program other = new Program(2 * MOST_ITEMS);
    private final int[] marks = new int[MOST_BIRTHS];
    private final int[] nextMembers = new int[MOST_MEMBERS];
    private final Stream seeded = new Stream();

    public BreedingHouse() {
    }

    // ---- texts

    public int type(long eight) {
        return texts.collect(eight);
    }

    public int read(int kind) throws IllegalArgumentException, IllegalStateException {
        if (kind < TREE || kind > NET) {
            throw new IllegalArgumentException("no such kind");
        }
        needRoom(1);
        int wrong = texts.parse(kind, spare);
        return wrong >= 0 ? -1 - wrong : bear(spare, BY_READ, -1, -1, -1, -1, 0L);
    }

    public int printed(int b) throws IndexOutOfBoundsException {
        return texts.write(birthAt(b));
    }

    public int letter(int b, int i) throws IndexOutOfBoundsException {
        int length = texts.write(birthAt(b));
        return i >= 0 && i < length ? texts.written(i) : -1;
    }

    // ---- programs

    public int births() {
        return bornCount;
    }

    public int birth(int b, int what) throws IndexOutOfBoundsException, IllegalArgumentException {
        Program p = birthAt(b);
        switch (what) {
            case 0:
                return p.kind;
            case 1:
                return p.size;
            case 2:
                return p.way;
            case 3:
                return p.first;
            case 4:
                return p.second;
            case 5:
                return p.how;
            case 6:
                return p.number;
            case 7:
                return p.lines;
            case 8:
                return p.kind == TREE ? turner.depthOf(p) : 0;
            default:
                throw new IllegalArgumentException("no such what");
        }
    }

    public long seed(int b) throws IndexOutOfBoundsException {
        return birthAt(b).seed;
    }

    public int item(int b, int i, int what) throws IndexOutOfBoundsException, IllegalArgumentException {
        Program p = birthAt(b);
        if (i < 0 || i >= p.size) {
            throw new IndexOutOfBoundsException("no such item");
        }
        if (what < 0 || what > CLASSES) {
            throw new IllegalArgumentException("no such what");
        }
        return p.get(i, what);
    }

    public boolean same(int a, int b) throws IndexOutOfBoundsException {
        Program p = birthAt(a);
        return p.alike(birthAt(b));
    }

    public long trees(int size) throws IllegalArgumentException {
        if (size < 1 || size > MOST_ORDERED) {
            throw new IllegalArgumentException("no such size");
        }
        return ranks.total(Ranks.FREE, size);
    }

    public int tree(int size, long place) throws IllegalArgumentException, IllegalStateException {
        if (size < 1 || size > MOST_ORDERED || place < 0 || place >= ranks.total(Ranks.FREE, size)) {
            throw new IllegalArgumentException("no such tree");
        }
        needRoom(1);
        ranks.build(Ranks.FREE, size, place, spare);
        return bear(spare, BY_ORDER, -1, -1, -1, -1, 0L);
    }

    public long place(int b) throws IndexOutOfBoundsException, IllegalArgumentException {
        Program p = birthAt(b);
        if (p.kind != TREE || p.size > MOST_ORDERED) {
            throw new IllegalArgumentException("no tree that is in the order");
        }
        return ranks.rank(p);
    }

    // ---- cases

    public int put(int v) {
        int length = draft[CASE_LENGTH];
        if (length >= MOST_ROW) {
            return -1;
        }
        draft[CASE_ROW + length] = v;
        draft[CASE_LENGTH] = length + 1;
        return length + 1;
    }

    public int add(int x, int y, int z, int want, int weight, boolean hidden)
            throws IllegalArgumentException, IllegalStateException {
        if (weight < 1 || weight > 9) {
            throw new IllegalArgumentException("no such weight");
        }
        if (judge.count >= MOST_CASES) {
            throw new IllegalStateException("no room for a case");
        }
        draft[0] = x;
        draft[1] = y;
        draft[2] = z;
        draft[CASE_WANT] = want;
        draft[CASE_WEIGHT] = weight;
        draft[CASE_HIDDEN] = hidden ? 1 : 0;
        int number = judge.keep(draft);
        Arrays.fill(draft, 0);
        return number;
    }

    public int drop(int k) throws IndexOutOfBoundsException {
        needCase(k);
        judge.forget(k);
        return judge.count;
    }

    public int cases() {
        return judge.count;
    }

    public int told(int k, int what) throws IndexOutOfBoundsException, IllegalArgumentException {
        needCase(k);
        if (what < 0 || what >= CASE_WIDTH) {
            throw new IllegalArgumentException("no such what");
        }
        return judge.fact(k, what);
    }

    // ---- running and judging

    public int run(int b, int k) throws IndexOutOfBoundsException {
        Program p = birthAt(b);
        needCase(k);
        judge.runner.load(p);
        judge.runner.perform(judge.facts, k * CASE_WIDTH);
        return remembered();
    }

    public int ask(int b, int x, int y, int z) throws IndexOutOfBoundsException {
        judge.runner.load(birthAt(b));
        draft[0] = x;
        draft[1] = y;
        draft[2] = z;
        judge.runner.perform(draft, 0);
        return remembered();
    }

    public int value() {
        return lastValue;
    }

    public int used() {
        return lastSteps;
    }

    public int error(int b, int k) throws IndexOutOfBoundsException {
        Program p = birthAt(b);
        needCase(k);
        judge.runner.load(p);
        return judge.errorOn(k);
    }

    public long score(int b, boolean hidden, int part) throws IndexOutOfBoundsException, IllegalArgumentException {
        Program p = birthAt(b);
        needPart(part);
        judge.lower(judge.cost(p, hidden), judge.weight(hidden));
        return judge.part(part);
    }

    public long overfit(int b, int part) throws IndexOutOfBoundsException, IllegalArgumentException {
        Program p = birthAt(b);
        needPart(part);
        long seen = judge.weight(false);
        long hidden = judge.weight(true);
        judge.lower(judge.cost(p, true) * seen - judge.cost(p, false) * hidden, seen * hidden);
        return judge.part(part);
    }

    public int hits(int b, boolean hidden) throws IndexOutOfBoundsException {
        judge.runner.load(birthAt(b));
        int hits = 0;
        for (int k = 0; k < judge.count; k++) {
            if (judge.counts(k, hidden) && judge.errorOn(k) == 0) {
                hits++;
            }
        }
        return hits;
    }

    public int compare(int a, int b) throws IndexOutOfBoundsException {
        Program p = birthAt(a);
        Program q = birthAt(b);
        int order = Long.compare(judge.cost(p, false), judge.cost(q, false));
        if (order == 0) {
            order = Integer.compare(p.size, q.size);
        }
        return order != 0 ? order : Integer.compare(a, b);
    }

    public int set(int what, int v) throws IllegalArgumentException {
        if (what < 0 || what >= settings.length || v < SET_LEAST[what] || v > SET_MOST[what]) {
            throw new IllegalArgumentException("no such setting");
        }
        int old = settings[what];
        settings[what] = v;
        judge.limit(settings[SET_LIMIT]);
        return old;
    }

    // ---- changes

    public int edits(int b, int how) throws IndexOutOfBoundsException, IllegalArgumentException {
        Program p = birthAt(b);
        needHow(how);
        changer.begin(p, null, how);
        return changer.count();
    }

    public int edit(int b, int how, int i)
            throws IndexOutOfBoundsException, IllegalArgumentException, IllegalStateException {
        Program p = birthAt(b);
        needHow(how);
        changer.begin(p, null, how);
        if (!changer.pick(i)) {
            throw new IndexOutOfBoundsException("no such edit");
        }
        needRoom(1);
        return bear(changer.out, BY_CHANGE, b, -1, how, i, 0L);
    }

    public int change(int b, int how, long seed)
            throws IndexOutOfBoundsException, IllegalArgumentException, IllegalStateException {
        Program p = birthAt(b);
        if (how < 0 || how > REGROWTH || how == REGROWTH && p.kind != TREE) {
            throw new IllegalArgumentException("no such how");
        }
        needRoom(1);
        return bred(b, -1, how, seed);
    }

    public int pairs(int a, int b) throws IndexOutOfBoundsException {
        Program p = birthAt(a);
        changer.begin(p, birthAt(b), 0);
        return changer.count();
    }

    public int cross(int a, int b, long seed)
            throws IndexOutOfBoundsException, IllegalArgumentException, IllegalStateException {
        Program p = birthAt(a);
        if (p.kind != birthAt(b).kind) {
            throw new IllegalArgumentException("two kinds");
        }
        needRoom(1);
        return bred(a, b, -1, seed);
    }

    // ---- islands

    public int populate(int island, int kind, int n, int size, long seed)
            throws IndexOutOfBoundsException, IllegalArgumentException, IllegalStateException {
        Island home = islandAt(island);
        int least = kind == NET ? 2 : 1;
        int most = kind == MACHINE ? MOST_STATES : kind == NET ? 8 : 9;
        if (kind < TREE || kind > NET || n < 1 || n > MOST_MEMBERS || size < least || size > most) {
            throw new IllegalArgumentException("no such population");
        }
        needRoom(n);
        int firstBirth = bornCount;
        home.stream.state = seed;
        home.count = n;
        for (int k = 0; k < n; k++) {
            drawProgram(home.stream, kind, size);
            home.birthOf[k] = bear(spare, BY_POPULATE, -1, -1, -1, -1, 0L);
        }
        return firstBirth;
    }

    public int members(int island) throws IndexOutOfBoundsException {
        return islandAt(island).count;
    }

    public int member(int island, int place) throws IndexOutOfBoundsException {
        return memberAt(islandAt(island), place);
    }

    public int breed(int island, int generations)
            throws IndexOutOfBoundsException, IllegalArgumentException, IllegalStateException {
        Island home = islandAt(island);
        if (generations < 1 || generations > 20) {
            throw new IllegalArgumentException("no such number of generations");
        }
        if (home.count == 0) {
            throw new IllegalStateException("no members");
        }
        int elites = Math.min(settings[SET_ELITES], home.count);
        needRoom((home.count - elites) * generations);
        for (int g = 0; g < generations; g++) {
            generation(home, elites);
        }
        home.look(born, judge);
        return home.birthOf[home.bestPlace()];
    }

    public boolean move(int from, int to) throws IndexOutOfBoundsException {
        Island source = islandAt(from);
        Island target = islandAt(to);
        if (from == to || source.count == 0 || target.count == 0
                || birthAt(source.birthOf[0]).kind != birthAt(target.birthOf[0]).kind) {
            return false;
        }
        source.look(born, judge);
        target.look(born, judge);
        target.birthOf[target.worstPlace()] = source.birthOf[source.bestPlace()];
        return true;
    }

    public int best(int island) throws IndexOutOfBoundsException, IllegalStateException {
        Island home = islandAt(island);
        if (home.count == 0) {
            throw new IllegalStateException("no members");
        }
        home.look(born, judge);
        return home.birthOf[home.bestPlace()];
    }

    public int front(int island, int k) throws IndexOutOfBoundsException {
        Island home = islandAt(island);
        home.look(born, judge);
        int place = k < 0 ? -1 : home.frontPlace(k);
        return place < 0 ? -1 : home.birthOf[place];
    }

    public int odds(int island, int place, int part)
            throws IndexOutOfBoundsException, IllegalArgumentException, IllegalStateException {
        Island home = islandAt(island);
        memberAt(home, place);
        needPart(part);
        home.look(born, judge);
        if (home.seen > 6) {
            throw new IllegalStateException("too many seen cases");
        }
        judge.lower(home.ordersFor(place), Island.orders(home.seen));
        return (int) judge.part(part);
    }

    public long distance(int a, int b) throws IndexOutOfBoundsException {
        Program p = birthAt(a);
        return judge.apart(p, birthAt(b));
    }

    public long novelty(int island, int place) throws IndexOutOfBoundsException {
        Island home = islandAt(island);
        Program p = birthAt(memberAt(home, place));
        long least = FARTHEST;
        long middle = FARTHEST;
        long greatest = FARTHEST;
        for (int k = 0; k < home.count; k++) {
            if (k != place) {
                long far = judge.apart(p, birthAt(home.birthOf[k]));
                greatest = Math.min(greatest, Math.max(middle, far));
                middle = Math.min(middle, Math.max(least, far));
                least = Math.min(least, far);
            }
        }
        return (home.count > 1 ? least : 0) + (home.count > 2 ? middle : 0) + (home.count > 3 ? greatest : 0);
    }

    // ---- pedigrees

    public int line(int b) throws IndexOutOfBoundsException {
        birthAt(b);
        Arrays.fill(marks, 0);
        markLine(b, 1);
        int many = 0;
        for (int k = 0; k < b; k++) {
            many += marks[k];
        }
        return many;
    }

    public int forebear(int a, int b) throws IndexOutOfBoundsException {
        birthAt(a);
        birthAt(b);
        Arrays.fill(marks, 0);
        markLine(a, 1);
        markLine(b, 2);
        for (int k = Math.min(a, b); k >= 0; k--) {
            if (marks[k] == 3) {
                return k;
            }
        }
        return -1;
    }

    public long gain(int b, int part) throws IndexOutOfBoundsException, IllegalArgumentException {
        Program p = birthAt(b);
        needPart(part);
        if (p.first < 0) {
            throw new IllegalArgumentException("no parent");
        }
        long before = judge.cost(birthAt(p.first), false);
        judge.lower(before - judge.cost(p, false), judge.weight(false));
        return judge.part(part);
    }

    public boolean replay(int b) throws IndexOutOfBoundsException, IllegalArgumentException {
        Program p = birthAt(b);
        if (p.way != BY_CHANGE && p.way != BY_CROSS) {
            throw new IllegalArgumentException("of another way");
        }
        Program parent = birthAt(p.first);
        if (p.how == REGROWTH) {
            seeded.state = p.seed;
            changer.regrow(parent, seeded, ranks);
        } else if (p.number < 0) {
            changer.out.copy(parent);
        } else {
            changer.begin(parent, p.way == BY_CROSS ? birthAt(p.second) : null, p.how);
            if (!changer.pick(p.number)) {
                return false;
            }
        }
        return changer.out.alike(p);
    }

    // ---- understanding

    public int search(int size) throws IllegalArgumentException, IllegalStateException {
        if (size < 1 || size > 5) {
            throw new IllegalArgumentException("no such size");
        }
        needRoom(1);
        int found = ranks.sought(judge, size);
        if (found < 0) {
            return -1;
        }
        ranks.build(Ranks.PLAIN, ranks.soughtSize, found, spare);
        return bear(spare, BY_ORDER, -1, -1, -1, -1, 0L);
    }

    public int simple(int b) throws IndexOutOfBoundsException, IllegalArgumentException, IllegalStateException {
        Program p = birthAt(b);
        if (p.kind != TREE) {
            throw new IllegalArgumentException("no tree");
        }
        needRoom(1);
        spare.copy(p);
        rules.simplify(spare, true);
        return bear(spare, BY_SIMPLE, b, -1, -1, -1, 0L);
    }

    public int rows() {
        return rules.count;
    }

    public int row(int k, int what) {
        if (k < 0 || k >= rules.count || what < 0 || what > 1) {
            return -1;
        }
        return what == 0 ? rules.nodes[k] : rules.numbers[k];
    }

    public boolean proves(int a, int b) throws IndexOutOfBoundsException {
        Program p = birthAt(a);
        Program q = birthAt(b);
        if (p.kind != TREE || q.kind != TREE) {
            return false;
        }
        spare.copy(p);
        return rules.goOver(spare) && spare.alike(q);
    }

    public int equal(int a, int b) throws IndexOutOfBoundsException {
        Program p = birthAt(a);
        Program q = birthAt(b);
        if (p.kind == MACHINE && q.kind == MACHINE) {
            return turner.machinesUnlike(p, q, unlikeRow) ? 0 : 1;
        }
        if (p.kind == NET && q.kind == NET && p.lines == q.lines) {
            return turner.netsUnlike(p, q, unlikeRow) ? 0 : 1;
        }
        if (turner.treeOf(p, spare) && turner.treeOf(q, other)) {
            rules.simplify(spare, false);
            rules.simplify(other, false);
            if (spare.alike(other)) {
                return 1;
            }
        }
        return shownUnlike(p, q) ? 0 : 2;
    }

    public int witness(int what) throws IllegalArgumentException {
        if (what < 0 || what >= unlikeRow.length) {
            throw new IllegalArgumentException("no such what");
        }
        return unlikeRow[what];
    }

    public int minimal(int b) throws IndexOutOfBoundsException, IllegalStateException {
        Program p = birthAt(b);
        needRoom(1);
        int how = p.kind == CODE ? 2 : p.kind == NET ? 1 : 3;
        spare.copy(p);
        boolean less = true;
        // Each round makes the program smaller.
        for (int round = 0; less && round < MOST_ITEMS; round++) {
            less = cutOnce(how);
        }
        return bear(spare, BY_MINIMAL, b, -1, -1, -1, 0L);
    }

    public int robust(int b, int how, int what) throws IndexOutOfBoundsException, IllegalArgumentException {
        Program p = birthAt(b);
        if (how < 0 || how >= REGROWTH || what < 0 || what > 2) {
            throw new IllegalArgumentException("no such how or what");
        }
        long before = judge.cost(p, false);
        int candidates = changer.begin(p, null, how);
        int many = 0;
        for (int c = 0; c < candidates; c++) {
            if (changer.made(c) && Long.compare(judge.cost(changer.out, false), before) == what - 1) {
                many++;
            }
        }
        return many;
    }

    public int compile(int b, int kind)
            throws IndexOutOfBoundsException, IllegalArgumentException, IllegalStateException {
        Program p = birthAt(b);
        if (!(p.kind == TREE && kind == CODE) && !(p.kind == CODE && kind == TREE)) {
            throw new IllegalArgumentException("no such turn");
        }
        needRoom(1);
        boolean can = kind == CODE ? turner.codeOf(p, spare) : turner.treeOf(p, spare);
        return can ? bear(spare, BY_TURN, b, -1, -1, -1, 0L) : -1;
    }

    public int least(int b) throws IndexOutOfBoundsException, IllegalArgumentException, IllegalStateException {
        Program p = birthAt(b);
        if (p.kind != MACHINE) {
            throw new IllegalArgumentException("no machine");
        }
        needRoom(1);
        turner.lessen(p, spare);
        return bear(spare, BY_TURN, b, -1, -1, -1, 0L);
    }

    public int clean(int b) throws IndexOutOfBoundsException, IllegalArgumentException, IllegalStateException {
        Program p = netAt(b);
        needRoom(1);
        turner.tidy(p, spare);
        return bear(spare, BY_TURN, b, -1, -1, -1, 0L);
    }

    public int unsorted(int b) throws IndexOutOfBoundsException, IllegalArgumentException {
        return turner.firstUnsorted(netAt(b));
    }

    public int layers(int b) throws IndexOutOfBoundsException, IllegalArgumentException {
        return turner.layersOf(netAt(b));
    }

    // ---- what the face stands on

    private Program birthAt(int b) {
        if (b < 0 || b >= bornCount || born[b] == null) {
            throw new IndexOutOfBoundsException("no such birth");
        }
        return born[b];
    }

    private Program netAt(int b) {
        Program p = birthAt(b);
        if (p.kind != NET) {
            throw new IllegalArgumentException("no net");
        }
        return p;
    }

    private Island islandAt(int island) {
        if (island < 0 || island >= islands.length) {
            throw new IndexOutOfBoundsException("no such island");
        }
        return islands[island];
    }

    private int memberAt(Island home, int place) {
        if (place < 0 || place >= home.count) {
            throw new IndexOutOfBoundsException("no such member");
        }
        return home.birthOf[place];
    }

    private void needCase(int k) {
        if (k < 0 || k >= judge.count) {
            throw new IndexOutOfBoundsException("no such case");
        }
    }

    private void needPart(int part) {
        if (part < 0 || part > 1) {
            throw new IllegalArgumentException("no such part");
        }
    }

    private void needHow(int how) {
        if (how < 0 || how >= REGROWTH) {
            throw new IllegalArgumentException("no such how");
        }
    }

    private void needRoom(int many) {
        if (bornCount + many > MOST_BIRTHS) {
            throw new IllegalStateException("no room for a birth");
        }
    }

    private int bear(Program p, int way, int first, int second, int how, int number, long seed) {
        Program child = new Program(p.size * p.width);
        child.copy(p);
        child.way = way;
        child.first = first;
        child.second = second;
        child.how = how;
        child.number = number;
        child.seed = seed;
        int b = bornCount;
        if (b < born.length) {
            born[b] = child;
            bornCount++;
        }
        return b;
    }

    private int remembered() {
        lastValue = judge.runner.number;
        lastSteps = judge.runner.steps;
        return judge.runner.fault;
    }

    /** A child by change, or by cross if there is a second parent. */
    private int bred(int a, int b, int how, long seed) {
        Program p = birthAt(a);
        int number = -1;
        seeded.state = seed;
        if (how == REGROWTH) {
            changer.regrow(p, seeded, ranks);
        } else {
            changer.begin(p, b < 0 ? null : birthAt(b), how);
            int many = changer.count();
            number = many > 0 ? seeded.draw(many) : -1;
            if (!changer.pick(number)) {
                changer.out.copy(p);
            }
        }
        return bear(changer.out, b < 0 ? BY_CHANGE : BY_CROSS, a, b, how, number, seed);
    }

    private void drawProgram(Stream stream, int kind, int size) {
        if (kind == MACHINE) {
            drawMachine(stream, size);
        } else if (kind == NET) {
            drawNet(stream, size);
        } else {
            Program target = kind == TREE ? spare : other;
            ranks.build(Ranks.FREE, size, stream.wide(ranks.total(Ranks.FREE, size)), target);
            if (kind == CODE && !turner.codeOf(other, spare)) {
                spare.start(CODE, 0);
                spare.append(CONSTANT, 0);
            }
        }
    }

    private void drawMachine(Stream stream, int states) {
        spare.start(MACHINE, 0);
        for (int k = 0; k < states; k++) {
            spare.append(stream.draw(10), stream.draw(states));
            for (int c = 1; c < CLASSES; c++) {
                spare.store(k, 1 + c, stream.draw(states));
            }
        }
    }

    private void drawNet(Stream stream, int lines) {
        spare.start(NET, lines);
        for (int k = 0; k < 2 * lines; k++) {
            int i = stream.draw(lines - 1);
            spare.append(i, i + 1 + stream.draw(lines - 1 - i));
        }
    }

    private void generation(Island home, int elites) {
        home.look(born, judge);
        home.rankAll();
        int kind = birthAt(home.birthOf[0]).kind;
        for (int k = 0; k < home.count; k++) {
            if (k < elites) {
                nextMembers[k] = home.birthOf[home.ranked[k]];
            } else if (home.stream.draw(100) < settings[SET_CROSSING]) {
                int a = home.choose(settings[SET_CHOICE], settings[SET_TOURNAMENT]);
                int b = home.choose(settings[SET_CHOICE], settings[SET_TOURNAMENT]);
                nextMembers[k] = bred(a, b, -1, home.stream.wide(1L << 62));
            } else {
                int a = home.choose(settings[SET_CHOICE], settings[SET_TOURNAMENT]);
                int how = home.stream.draw(kind == TREE ? REGROWTH + 1 : REGROWTH);
                nextMembers[k] = bred(a, -1, how, home.stream.wide(1L << 62));
            }
        }
        System.arraycopy(nextMembers, 0, home.birthOf, 0, home.count);
    }

    /** Marks a birth and all that it comes of; parents are lesser births, so one way down is enough. */
    private void markLine(int b, int bit) {
        mark(b, bit);
        for (int k = b; k >= 0; k--) {
            if ((marks[k] & bit) != 0) {
                Program p = birthAt(k);
                mark(p.first, bit);
                mark(p.second, bit);
            }
        }
    }

    private void mark(int b, int bit) {
        if (b >= 0 && b < marks.length) {
            marks[b] |= bit;
        }
    }

    private boolean cutOnce(int how) {
        long before = judge.cost(spare, false);
        int candidates = changer.begin(spare, null, how);
        for (int c = 0; c < candidates; c++) {
            if (changer.made(c) && judge.cost(changer.out, false) <= before) {
                spare.copy(changer.out);
                return true;
            }
        }
        return false;
    }

    private boolean shownUnlike(Program p, Program q) {
        judge.runner.load(p);
        judge.second.load(q);
        for (int k = 0; k < judge.count; k++) {
            if (judge.unlikeOn(judge.facts, k * CASE_WIDTH)) {
                return keepUnlike(judge.facts, k * CASE_WIDTH);
            }
        }
        for (int k = 0; k < 250; k++) {
            trial[0] = k / 25 % 5 - 2;
            trial[1] = k / 5 % 5 - 2;
            trial[2] = k % 5 - 2;
            trial[CASE_LENGTH] = k < 125 ? 0 : 3;
            for (int i = 0; i < 3; i++) {
                trial[CASE_ROW + i] = k < 125 ? 0 : i + 1;
            }
            if (judge.unlikeOn(trial, 0)) {
                return keepUnlike(trial, 0);
            }
        }
        return false;
    }

    private boolean keepUnlike(int[] facts, int from) {
        Arrays.fill(unlikeRow, 0);
        System.arraycopy(facts, from, unlikeRow, 0, 3);
        unlikeRow[3] = facts[from + CASE_LENGTH];
        System.arraycopy(facts, from + CASE_ROW, unlikeRow, 4, MOST_ROW);
        return true;
    }

    private static int partsOf(int sort) {
        return sort < LESS ? 0 : sort < PLUS ? 1 : sort < IF ? 2 : 3;
    }

    private static boolean isTruth(int sort) {
        return sort == NOT || sort >= BELOW && sort <= OR;
    }

    private static boolean wantsTruth(int sort, int part) {
        return sort == NOT || sort == AND || sort == OR || sort == IF && part == 0;
    }

    /** The stream of a seed. */
    private static final class Stream {
        long state = 0;

        private long next() {
            state = state * 6364136223846793005L + 1442695040888963407L;
            return state >>> 33;
        }

        int draw(int n) {
            long v = next();
            return n > 0 ? (int) (v % n) : 0;
        }

        long wide(long n) {
            long a = next();
            long b = next();
            return n > 0 ? (2147483648L * a + b) % n : 0;
        }
    }

    /** A program and, once it is a birth, where it comes from. */
    private static final class Program {
        private final int[] items;
        int kind = TREE;
        int lines = 0;
        int size = 0;
        /** How many numbers an item has: a state its output and edges, any other item two. */
        int width = 2;
        int way = 0;
        int first = -1;
        int second = -1;
        int how = -1;
        int number = -1;
        long seed = 0;

        Program(int room) {
            items = new int[room > 0 ? room : 0];
        }

        void start(int newKind, int newLines) {
            kind = newKind;
            lines = newLines;
            size = 0;
            width = newKind == MACHINE ? 1 + CLASSES : 2;
        }

        int get(int i, int what) {
            return i >= 0 && i < size && what >= 0 && what < width ? items[i * width + what] : 0;
        }

        void store(int i, int what, int v) {
            if (i >= 0 && i < size && what >= 0 && what < width) {
                items[i * width + what] = v;
            }
        }

        boolean append(int a, int b) {
            int from = size * width;
            if (from + width > items.length) {
                return false;
            }
            for (int k = 2; k < width; k++) {
                items[from + k] = 0;
            }
            items[from] = a;
            items[from + 1] = b;
            size++;
            return true;
        }

        boolean take(Program from, int begin, int end) {
            int many = end - begin;
            if (from.width != width || begin < 0 || many < 0 || end > from.size
                    || (size + many) * width > items.length) {
                return false;
            }
            System.arraycopy(from.items, begin * width, items, size * width, many * width);
            size += many;
            return true;
        }

        void copy(Program from) {
            start(from.kind, from.lines);
            if (from.size * width <= items.length) {
                size = from.size;
                System.arraycopy(from.items, 0, items, 0, size * width);
            }
        }

        /** Whether a tree has, from one node up to another, none that can come to a fault, and no fold. */
        boolean safe(int begin, int end) {
            for (int k = begin; k < end; k++) {
                int sort = get(k, 0);
                if (sort == OVER || sort == REST || sort == AT || sort == FOLD) {
                    return false;
                }
            }
            return true;
        }

        boolean alike(Program q) {
            if (kind != q.kind || lines != q.lines || size != q.size) {
                return false;
            }
            for (int k = 0; k < size * width; k++) {
                if (items[k] != q.items[k]) {
                    return false;
                }
            }
            return true;
        }
    }

    /** What can be told of a program by its form: of trees their nodes' places, of code the pile's heights. */
    private static final class Shape {
        final int[] ends = new int[MOST_ITEMS];
        final int[] deep = new int[MOST_ITEMS];
        final int[] tall = new int[MOST_ITEMS];
        final boolean[] inner = new boolean[MOST_ITEMS];
        final boolean[] folds = new boolean[MOST_ITEMS];
        final boolean[] loose = new boolean[MOST_ITEMS];
        final int[] heights = new int[MOST_ITEMS + 1];
        private int size = 0;

        /** Where part k of a node begins, which is where the one ahead of it ends. */
        int partAt(int node, int part) {
            int at = node + 1;
            for (int k = 0; k < part; k++) {
                at = endOf(at);
            }
            return at;
        }

        int endOf(int node) {
            return node >= 0 && node < size ? ends[node] : size;
        }

        void measure(Program p) {
            size = Math.min(p.size, MOST_ITEMS);
            for (int node = size - 1; node >= 0; node--) {
                int end = node + 1;
                for (int k = partsOf(p.get(node, 0)); k > 0; k--) {
                    end = end < size ? ends[end] : size;
                }
                ends[node] = end;
            }
        }

        void ofTree(Program p) {
            measure(p);
            for (int node = size - 1; node >= 0; node--) {
                gather(node, p.get(node, 0));
            }
            if (size > 0) {
                deep[0] = 1;
                inner[0] = false;
            }
            for (int node = 0; node < size; node++) {
                hand(node, p.get(node, 0));
            }
        }

        /** A node's height and what is in it, out of its parts, which have greater numbers. */
        private void gather(int node, int sort) {
            tall[node] = 1;
            folds[node] = sort == FOLD;
            loose[node] = sort == CARRIED || sort == EACH;
            int at = node + 1;
            for (int k = 0; k < partsOf(sort) && at < size; k++) {
                tall[node] = Math.max(tall[node], tall[at] + 1);
                folds[node] = folds[node] || folds[at];
                // A fold's second part has its own s and e.
                loose[node] = loose[node] || loose[at] && !(sort == FOLD && k == 1);
                at = ends[at];
            }
        }

        private void hand(int node, int sort) {
            int at = node + 1;
            for (int k = 0; k < partsOf(sort) && at < size; k++) {
                deep[at] = deep[node] + 1;
                inner[at] = inner[node] || sort == FOLD && k == 1;
                at = ends[at];
            }
        }

        static int needs(int sort) {
            if (sort <= ROW_LENGTH || sort == JUMP) {
                return 0;
            }
            return sort >= CODE_PLUS && sort <= CODE_SAME || sort == SWAP ? 2 : 1;
        }

        static int grows(int sort) {
            if (sort <= ROW_LENGTH || sort == DOUBLE) {
                return 1;
            }
            return sort >= CODE_PLUS && sort <= CODE_SAME || sort == TAKE || sort == BRANCH ? -1 : 0;
        }

        /** The first instruction that is wrong, -1 if none is; the heights ahead of all are known then. */
        int ofCode(Program p) {
            size = p.size;
            if (size < 1 || size > MOST_ITEMS) {
                return 0;
            }
            Arrays.fill(heights, -1);
            heights[0] = 0;
            for (int i = 0; i < size; i++) {
                int sort = p.get(i, 0);
                int left = heights[i] + grows(sort);
                if (heights[i] < needs(sort) || left > MOST_HEIGHT
                        || sort != JUMP && !leads(i + 1, left)
                        || sort >= JUMP && !leads(i + 1 + p.get(i, 1), left)) {
                    return i;
                }
            }
            return -1;
        }

        private boolean leads(int to, int left) {
            if (to < 0 || to > size || to == size && left != 1 || heights[to] >= 0 && heights[to] != left) {
                return false;
            }
            heights[to] = left;
            return true;
        }
    }

    /** Runs a program on a case. */
    private static final class Runner {
        int limit = 200;
        int fault = 0;
        int steps = 0;
        int number = 0;
        private Program program = null;
        private final Shape shape = new Shape();
        private int x = 0;
        private int y = 0;
        private int z = 0;
        private final int[] row = new int[MOST_ROW];
        private int length = 0;
        private int carried = 0;
        private int each = 0;
        private final int[] pile = new int[MOST_HEIGHT];
        private int height = 0;

        void load(Program p) {
            program = p;
            if (p.kind == TREE) {
                shape.measure(p);
            }
        }

        void perform(int[] facts, int from) {
            fault = 0;
            steps = 0;
            number = 0;
            if (program == null || from < 0 || from + CASE_WIDTH > facts.length) {
                return;
            }
            x = facts[from];
            y = facts[from + 1];
            z = facts[from + 2];
            length = Math.min(facts[from + CASE_LENGTH], MOST_ROW);
            System.arraycopy(facts, from + CASE_ROW, row, 0, MOST_ROW);
            int outcome = program.kind == TREE ? work(0, 1)
                    : program.kind == CODE ? runCode()
                    : program.kind == MACHINE ? runMachine() : runNet();
            number = fault == 0 ? outcome : 0;
        }

        private boolean step() {
            if (steps >= limit) {
                fault = FAULT_LIMIT;
                return false;
            }
            steps++;
            return true;
        }

        private int leaf(int sort, int constant) {
            switch (sort) {
                case INPUT_X:
                    return x;
                case INPUT_Y:
                    return y;
                case INPUT_Z:
                    return z;
                case ROW_LENGTH:
                    return length;
                case CARRIED:
                    return carried;
                case EACH:
                    return each;
                default:
                    return constant;
            }
        }

        private int work(int node, int depth) {
            if (depth > MOST_DEPTH || fault != 0 || !step()) {
                return 0;
            }
            int sort = program.get(node, 0);
            if (sort < LESS) {
                return leaf(sort, program.get(node, 1));
            }
            int a = work(node + 1, depth + 1);
            int second = shape.endOf(node + 1);
            if (fault != 0 || sort == AND && a == 0 || sort == OR && a != 0) {
                return a;
            }
            if (sort < PLUS) {
                return one(sort, a);
            }
            if (sort == FOLD) {
                return foldOn(a, second, depth);
            }
            if (sort == IF && a == 0) {
                return work(shape.endOf(second), depth + 1);
            }
            int b = work(second, depth + 1);
            return fault != 0 || sort == AND || sort == OR || sort == IF ? b : two(sort, a, b);
        }

        private int foldOn(int begin, int second, int depth) {
            int result = begin;
            for (int k = 0; k < length && fault == 0; k++) {
                carried = result;
                each = row[k];
                result = work(second, depth + 1);
            }
            return result;
        }

        private int one(int sort, int a) {
            if (sort == NOT) {
                return 1 - a;
            }
            if (sort == LESS) {
                return -a;
            }
            if (a < 0 || a >= length) {
                fault = FAULT_PLACE;
                return 0;
            }
            return row[a];
        }

        int two(int sort, int a, int b) {
            switch (sort) {
                case PLUS:
                    return a + b;
                case MINUS:
                    return a - b;
                case TIMES:
                    return a * b;
                case BELOW:
                    return a < b ? 1 : 0;
                case SAME:
                    return a == b ? 1 : 0;
                default:
                    if (b == 0) {
                        fault = FAULT_QUOTIENT;
                        return 0;
                    }
                    return sort == OVER ? a / b : a % b;
            }
        }

        private int runCode() {
            height = 0;
            int at = 0;
            for (int turn = 0; turn < MOST_ITEMS && at < program.size && fault == 0; turn++) {
                int sort = program.get(at, 0);
                int argument = program.get(at, 1);
                if (height < Shape.needs(sort) || height + Shape.grows(sort) > MOST_HEIGHT || !step()) {
                    return 0;
                }
                if (sort <= ROW_LENGTH) {
                    pile[height] = leaf(sort, argument);
                } else if (sort <= CODE_AT) {
                    pile[height - 1] = one(sort + 2, pile[height - 1]);
                } else if (sort <= CODE_SAME) {
                    pile[height - 2] = two(sort + 3, pile[height - 2], pile[height - 1]);
                } else if (sort == DOUBLE) {
                    pile[height] = pile[height - 1];
                } else if (sort == SWAP) {
                    int upper = pile[height - 1];
                    pile[height - 1] = pile[height - 2];
                    pile[height - 2] = upper;
                }
                height += Shape.grows(sort);
                boolean passes = sort == JUMP || sort == BRANCH && pile[height] == 0;
                at += passes ? 1 + argument : 1;
            }
            return height > 0 ? pile[height - 1] : 0;
        }

        private int runMachine() {
            step();
            int state = 0;
            for (int k = 0; k < length && fault == 0; k++) {
                if (step()) {
                    state = program.get(state, 1 + Math.floorMod(row[k], CLASSES));
                }
            }
            return program.get(state, 0);
        }

        private int runNet() {
            step();
            for (int k = 0; k < MOST_ROW; k++) {
                pile[k] = k < length ? row[k] : 0;
            }
            for (int c = 0; c < program.size && fault == 0; c++) {
                if (step()) {
                    exchange(program.get(c, 0), program.get(c, 1));
                }
            }
            int middle = (program.lines - 1) / 2;
            return middle >= 0 && middle < pile.length ? pile[middle] : 0;
        }

        private void exchange(int i, int j) {
            if (i >= 0 && i < j && j < pile.length && pile[i] > pile[j]) {
                int greater = pile[i];
                pile[i] = pile[j];
                pile[j] = greater;
            }
        }
    }

    /** The cases, and what programs are worth on them. */
    private static final class Judge {
        final int[] facts = new int[MOST_CASES * CASE_WIDTH];
        int count = 0;
        final Runner runner = new Runner();
        final Runner second = new Runner();
        private long above = 0;
        private long below = 1;

        void limit(int most) {
            runner.limit = most;
            second.limit = most;
        }

        int keep(int[] draft) {
            System.arraycopy(draft, 0, facts, count * CASE_WIDTH, CASE_WIDTH);
            count++;
            return count - 1;
        }

        void forget(int k) {
            System.arraycopy(facts, (k + 1) * CASE_WIDTH, facts, k * CASE_WIDTH, (count - 1 - k) * CASE_WIDTH);
            count--;
        }

        int fact(int k, int what) {
            int at = k * CASE_WIDTH + what;
            return at >= 0 && at < facts.length ? facts[at] : 0;
        }

        boolean counts(int k, boolean hidden) {
            return (fact(k, CASE_HIDDEN) != 0) == hidden;
        }

        /** Numbers the seen cases into a row of numbers: how many there are. */
        int listSeen(int[] into) {
            int seen = 0;
            for (int k = 0; k < count && seen < into.length; k++) {
                if (counts(k, false)) {
                    into[seen] = k;
                    seen++;
                }
            }
            return seen;
        }

        static int gap(int a, int b) {
            return (int) Math.min(Math.abs((long) a - (long) b), (long) MOST_GAP);
        }

        int errorOn(int k) {
            runner.perform(facts, k * CASE_WIDTH);
            return runner.fault != 0 ? FAULT_ERROR : gap(runner.number, fact(k, CASE_WANT));
        }

        /** The sum of weights times errors: all programs have it through the same sum of weights. */
        long cost(Program p, boolean hidden) {
            runner.load(p);
            long cost = 0;
            for (int k = 0; k < count; k++) {
                if (counts(k, hidden)) {
                    cost += (long) fact(k, CASE_WEIGHT) * errorOn(k);
                }
            }
            return cost;
        }

        /** The sum of weights; 1 without cases, since a score is 0 through 1 then. */
        long weight(boolean hidden) {
            long weight = 0;
            for (int k = 0; k < count; k++) {
                if (counts(k, hidden)) {
                    weight += fact(k, CASE_WEIGHT);
                }
            }
            return weight > 0 ? weight : 1;
        }

        void lower(long top, long bottom) {
            long a = Math.abs(top);
            long b = bottom;
            for (int k = 0; k < 200 && a != 0; k++) {
                long left = b % a;
                b = a;
                a = left;
            }
            above = b > 0 ? top / b : top;
            below = b > 0 ? bottom / b : bottom;
        }

        long part(int which) {
            return which == 0 ? above : below;
        }

        long apart(Program p, Program q) {
            runner.load(p);
            second.load(q);
            long sum = 0;
            for (int k = 0; k < count; k++) {
                if (counts(k, false)) {
                    runner.perform(facts, k * CASE_WIDTH);
                    second.perform(facts, k * CASE_WIDTH);
                    sum += runner.fault != second.fault ? MOST_GAP : gap(runner.number, second.number);
                }
            }
            return sum;
        }

        boolean unlikeOn(int[] row, int at) {
            runner.perform(row, at);
            second.perform(row, at);
            return runner.fault != FAULT_LIMIT && second.fault != FAULT_LIMIT
                    && (runner.fault != second.fault || runner.number != second.number);
        }
    }

    /** Members that are bred together, and how one of them is chosen. */
    private static final class Island {
        int count = 0;
        final int[] birthOf = new int[MOST_MEMBERS];
        final Stream stream = new Stream();
        int seen = 0;
        final int[] ranked = new int[MOST_MEMBERS];
        private final long[] costs = new long[MOST_MEMBERS];
        private final int[] sizes = new int[MOST_MEMBERS];
        private final int[] errors = new int[MOST_MEMBERS * MOST_CASES];
        private final int[] seenCases = new int[MOST_CASES];
        private final int[] order = new int[MOST_CASES];

        /** Nothing of scores is kept from call to call, so each call looks first. */
        void look(Program[] births, Judge judge) {
            seen = judge.listSeen(seenCases);
            for (int place = 0; place < count; place++) {
                int b = birthOf[place];
                Program p = b >= 0 && b < births.length ? births[b] : null;
                if (p != null) {
                    judge.runner.load(p);
                    sizes[place] = p.size;
                    costs[place] = 0;
                }
                for (int k = 0; p != null && k < seen; k++) {
                    int error = judge.errorOn(seenCases[k]);
                    errors[place * MOST_CASES + k] = error;
                    costs[place] += (long) judge.fact(seenCases[k], CASE_WEIGHT) * error;
                }
            }
        }

        private boolean better(int p, int q) {
            if (costs[p] != costs[q]) {
                return costs[p] < costs[q];
            }
            if (sizes[p] != sizes[q]) {
                return sizes[p] < sizes[q];
            }
            return birthOf[p] != birthOf[q] ? birthOf[p] < birthOf[q] : p < q;
        }

        int bestPlace() {
            int best = 0;
            for (int p = 1; p < count; p++) {
                best = better(p, best) ? p : best;
            }
            return best;
        }

        int worstPlace() {
            int worst = 0;
            for (int p = 1; p < count; p++) {
                worst = better(worst, p) ? p : worst;
            }
            return worst;
        }

        void rankAll() {
            for (int p = 0; p < count; p++) {
                int ahead = 0;
                for (int q = 0; q < count; q++) {
                    ahead += better(q, p) ? 1 : 0;
                }
                ranked[ahead] = p;
            }
        }

        private boolean inFront(int p) {
            for (int q = 0; q < count; q++) {
                if (costs[q] <= costs[p] && sizes[q] <= sizes[p]
                        && (costs[q] < costs[p] || sizes[q] < sizes[p])) {
                    return false;
                }
            }
            return true;
        }

        /** The place of member k of the front; -1 if it has no more than k. */
        int frontPlace(int k) {
            int left = k;
            for (int p = 0; p < count; p++) {
                if (inFront(p)) {
                    if (left == 0) {
                        return p;
                    }
                    left--;
                }
            }
            return -1;
        }

        private int frontSize() {
            int many = 0;
            for (int p = 0; p < count; p++) {
                many += inFront(p) ? 1 : 0;
            }
            return many;
        }

        /** The birth that a choice comes to. */
        int choose(int choice, int tournament) {
            int place = choice == 0 ? tournamentPlace(tournament)
                    : choice == 1 ? casesPlace() : frontPlace(stream.draw(frontSize()));
            return place >= 0 && place < count ? birthOf[place] : birthOf[0];
        }

        private int tournamentPlace(int draws) {
            int best = stream.draw(count);
            for (int k = 1; k < draws; k++) {
                int p = stream.draw(count);
                best = better(p, best) ? p : best;
            }
            return best;
        }

        private int casesPlace() {
            for (int k = 0; k < seen; k++) {
                order[k] = k;
            }
            for (int k = seen - 1; k >= 1; k--) {
                int at = stream.draw(k + 1);
                int moved = order[k];
                order[k] = order[at];
                order[at] = moved;
            }
            int left = (1 << count) - 1;
            for (int k = 0; k < seen; k++) {
                left = narrowed(left, order[k]);
            }
            return leastOf(left);
        }

        private int leastOf(int mask) {
            int place = 0;
            while (place < count && (mask >> place & 1) == 0) {
                place++;
            }
            return place;
        }

        /** Of the members with a bit in a mask those with the least error at a seen case. */
        private int narrowed(int mask, int k) {
            int least = FAULT_ERROR;
            int kept = 0;
            for (int p = 0; p < count; p++) {
                int error = errors[p * MOST_CASES + k];
                if ((mask >> p & 1) == 1 && error <= least) {
                    kept = error < least ? 0 : kept;
                    kept |= 1 << p;
                    least = error;
                }
            }
            return kept;
        }

        /** In how many orders of the seen cases, of which there are at most six, a place is chosen. */
        int ordersFor(int place) {
            return wins((1 << count) - 1, (1 << seen) - 1, place);
        }

        /** The same for the members and cases that are left; each level has one case fewer. */
        private int wins(int mask, int cases, int place) {
            if ((mask >> place & 1) == 0) {
                return 0;
            }
            if (cases == 0 || Integer.bitCount(mask) == 1) {
                return leastOf(mask) == place ? orders(Integer.bitCount(cases)) : 0;
            }
            int many = 0;
            for (int k = 0; k < 6; k++) {
                if ((cases >> k & 1) == 1) {
                    many += wins(narrowed(mask, k), cases & ~(1 << k), place);
                }
            }
            return many;
        }

        static int orders(int many) {
            int product = 1;
            for (int k = 2; k <= many; k++) {
                product *= k;
            }
            return product;
        }
    }

    /** Reads programs from the text that is collected, and prints them. */
    private static final class Texts {
        private final char[] text = new char[MOST_TEXT];
        private int length = 0;
        private int at = 0;
        private int wrong = -1;
        private Program into = null;
        private final int[] starts = new int[MOST_ITEMS];
        private final Shape shape = new Shape();
        private final char[] sheet = new char[MOST_TEXT];
        private int filled = 0;

        int collect(long eight) {
            int many = 0;
            while (many < 8 && (eight >>> 8 * many & 255) != 0) {
                many++;
            }
            if (length + many > MOST_TEXT) {
                return -1;
            }
            for (int k = 0; k < many; k++) {
                text[length] = (char) (eight >>> 8 * k & 255);
                length++;
            }
            return length;
        }

        /** The place that is wrong, -1 if none is; the text is empty then. */
        int parse(int kind, Program target) {
            into = target;
            into.start(kind, 0);
            at = 0;
            wrong = -1;
            if (kind == TREE) {
                node(false, 1, false);
            } else if (kind == NET) {
                net();
            } else {
                parts(kind);
            }
            if (wrong < 0 && at < length) {
                fail();
            }
            if (wrong < 0 && kind == CODE) {
                int bad = shape.ofCode(into);
                wrong = bad < 0 ? -1 : starts[bad];
            }
            if (wrong < 0 && kind == MACHINE) {
                wrong = lostEdge();
            }
            length = 0;
            return wrong;
        }

        private char peek() {
            return at < length ? text[at] : 0;
        }

        private static boolean isDigit(char c) {
            return c >= '0' && c <= '9';
        }

        private void fail() {
            if (wrong < 0) {
                wrong = at;
            }
        }

        private boolean expect(char c) {
            if (wrong < 0 && peek() == c) {
                at++;
                return true;
            }
            fail();
            return false;
        }

        /** A digit that is at least one number and at most another one. */
        private int digit(int low, int high) {
            int d = peek() - '0';
            if (wrong >= 0 || d < low || d > high) {
                fail();
                return 0;
            }
            at++;
            return d;
        }

        private int digits() {
            int d = 0;
            if (wrong >= 0 || !isDigit(peek())) {
                fail();
            }
            for (int k = 0; k < 2 && wrong < 0 && isDigit(peek()); k++) {
                d = 10 * d + peek() - '0';
                at++;
            }
            return d;
        }

        private int constant() {
            boolean negative = peek() == '-';
            if (negative) {
                at++;
            }
            int d = digits();
            return negative ? -d : d;
        }

        private void node(boolean truth, int depth, boolean inner) {
            char c = peek();
            int leaf = TREE_LEAVES.indexOf(c) + 1;
            if (into.size >= MOST_ITEMS || depth > MOST_DEPTH) {
                fail();
            } else if (c == '(') {
                at++;
                branching(truth, depth, inner);
            } else if (truth || leaf >= CARRIED && !inner) {
                fail();
            } else if (leaf > 0) {
                at++;
                into.append(leaf, 0);
            } else {
                into.append(CONSTANT, constant());
            }
        }

        private void branching(boolean truth, int depth, boolean inner) {
            int sign = TREE_SIGNS.indexOf(peek());
            int sort = sign + LESS;
            if (sign < 0 || isTruth(sort) != truth || sort == FOLD && inner) {
                fail();
                return;
            }
            at++;
            into.append(sort, 0);
            for (int k = 0; k < partsOf(sort) && expect(' '); k++) {
                node(wantsTruth(sort, k), depth + 1, inner || sort == FOLD && k == 1);
            }
            expect(')');
        }

        /** Instructions with blanks between, or states with semicolons. */
        private void parts(int kind) {
            int most = kind == CODE ? MOST_ITEMS : MOST_STATES;
            for (int k = 0; k <= most && wrong < 0 && (k == 0 || at < length); k++) {
                if (k > 0 && !expect(kind == CODE ? ' ' : ';')) {
                    return;
                }
                if (k == most) {
                    fail();
                } else if (kind == CODE) {
                    starts[k] = at;
                    instruction();
                } else {
                    state(k);
                }
            }
        }

        private void instruction() {
            char c = peek();
            boolean negative = c == '-' && at + 1 < length && isDigit(text[at + 1]);
            int sign = CODE_SIGNS.indexOf(c);
            if (negative || isDigit(c)) {
                into.append(CONSTANT, constant());
            } else if (sign >= 0) {
                at++;
                into.append(sign + 1, 0);
            } else if (c == 'j' || c == 'b') {
                at++;
                into.append(c == 'j' ? JUMP : BRANCH, digits());
            } else {
                fail();
            }
        }

        private void state(int k) {
            into.append(constant(), 0);
            expect(':');
            for (int c = 0; c < CLASSES; c++) {
                starts[CLASSES * k + c] = at;
                into.store(k, 1 + c, digit(0, 9));
            }
        }

        private int lostEdge() {
            for (int k = 0; k < CLASSES * into.size; k++) {
                if (into.get(k / CLASSES, 1 + k % CLASSES) >= into.size) {
                    return starts[k];
                }
            }
            return -1;
        }

        private void net() {
            int lines = digit(2, 8);
            into.start(NET, lines);
            expect(':');
            for (int k = 0; k <= MOST_COMPARATORS && wrong < 0 && at < length; k++) {
                if (k > 0) {
                    expect(',');
                }
                if (k == MOST_COMPARATORS) {
                    fail();
                }
                int i = digit(0, lines - 1);
                into.append(i, digit(i + 1, lines - 1));
            }
        }

        /** Prints a program on the sheet: how long it is. */
        int write(Program p) {
            filled = 0;
            into = p;
            if (p.kind == TREE) {
                writeNode(0, 1);
            } else if (p.kind == NET) {
                ink((char) ('0' + p.lines));
                ink(':');
            }
            for (int k = 0; p.kind != TREE && k < p.size; k++) {
                if (k > 0) {
                    ink(p.kind == CODE ? ' ' : p.kind == MACHINE ? ';' : ',');
                }
                writeItem(p.kind, k);
            }
            return filled;
        }

        int written(int i) {
            return i >= 0 && i < filled ? sheet[i] : -1;
        }

        private void ink(char c) {
            if (filled < sheet.length) {
                sheet[filled] = c;
                filled++;
            }
        }

        private void number(int v) {
            int size = Math.abs(v);
            if (v < 0) {
                ink('-');
            }
            if (size > 9) {
                ink((char) ('0' + size / 10 % 10));
            }
            ink((char) ('0' + size % 10));
        }

        /** Prints a node with all that is in it and answers where the next one begins. */
        private int writeNode(int node, int depth) {
            int sort = into.get(node, 0);
            int next = node + 1;
            if (sort == CONSTANT) {
                number(into.get(node, 1));
            } else if (sort < LESS) {
                ink(TREE_LEAVES.charAt(sort - 1));
            } else {
                ink('(');
                ink(TREE_SIGNS.charAt(sort - LESS));
                for (int k = 0; k < partsOf(sort) && depth <= MOST_DEPTH; k++) {
                    ink(' ');
                    next = writeNode(next, depth + 1);
                }
                ink(')');
            }
            return next;
        }

        private void writeItem(int kind, int k) {
            int a = into.get(k, 0);
            int b = into.get(k, 1);
            if (kind == NET) {
                ink((char) ('0' + a));
                ink((char) ('0' + b));
            } else if (kind == MACHINE) {
                number(a);
                ink(':');
                for (int c = 0; c < CLASSES; c++) {
                    ink((char) ('0' + into.get(k, 1 + c)));
                }
            } else if (a == CONSTANT) {
                number(b);
            } else if (a < JUMP) {
                ink(CODE_SIGNS.charAt(a - 1));
            } else {
                ink(a == JUMP ? 'j' : 'b');
                number(b);
            }
        }
    }

    /** The order of trees: how many there are, which one has a place, which place one has. */
    private static final class Ranks {
        // A context is twice a zone, and 1 for truths. Zones: free of folds around, in a fold's second
        // part, without any fold.
        static final int FREE = 0;
        static final int INNER = 2;
        static final int PLAIN = 4;
        private static final int CONTEXTS = 6;
        private static final int SIZES = MOST_ORDERED + 1;
        // No number that wraps is as great.
        private static final long FAULTY = 1L << 40;

        private final long[] ways = new long[CONTEXTS * SORTS * SIZES];
        private final long[] totals = new long[CONTEXTS * SIZES];
        private final Shape shape = new Shape();
        private Program tree = null;
        private final long[][] values = new long[MOST_CASES][];
        private final int[] seenCases = new int[MOST_CASES];
        private int seen = 0;
        private Judge judge = null;
        int soughtSize = 0;

        Ranks() {
            for (int size = 1; size < SIZES; size++) {
                for (int c = 0; c < CONTEXTS * SORTS; c++) {
                    long many = counted(c / SORTS, c % SORTS, size);
                    ways[c * SIZES + size] = many;
                    totals[c / SORTS * SIZES + size] += many;
                }
            }
        }

        long total(int context, int size) {
            return size > 0 && size < SIZES && context >= 0 && context < CONTEXTS ? totals[context * SIZES + size] : 0;
        }

        private long waysOf(int context, int sort, int size) {
            return size > 0 && size < SIZES ? ways[(context * SORTS + sort) * SIZES + size] : 0;
        }

        private static int partContext(int context, int sort, int part) {
            int zone = sort == FOLD && part == 1 ? INNER : context / 2 * 2;
            return wantsTruth(sort, part) ? zone + 1 : zone;
        }

        private static boolean allowed(int context, int sort) {
            int zone = context / 2 * 2;
            return isTruth(sort) == (context % 2 == 1)
                    && (zone == INNER || sort != CARRIED && sort != EACH) && (zone == FREE || sort != FOLD);
        }

        /** How many trees have a sort at node 0, by what is known of lesser sizes. */
        private long counted(int context, int sort, int size) {
            if (!allowed(context, sort)) {
                return 0;
            }
            int a = partContext(context, sort, 0);
            int b = partContext(context, sort, 1);
            switch (partsOf(sort)) {
                case 0:
                    return size > 1 ? 0 : sort == CONSTANT ? 10 : 1;
                case 1:
                    return total(a, size - 1);
                case 2:
                    return twoParts(a, b, size - 1);
                default:
                    long many = 0;
                    for (int f = 1; f < size - 1; f++) {
                        many += total(a, f) * twoParts(b, b, size - 1 - f);
                    }
                    return many;
            }
        }

        private long twoParts(int a, int b, int size) {
            long many = 0;
            for (int f = 1; f < size; f++) {
                many += total(a, f) * total(b, size - f);
            }
            return many;
        }

        void build(int context, int size, long place, Program target) {
            tree = target;
            tree.start(TREE, 0);
            grow(context, size, place, 1);
        }

        private void grow(int context, int size, long place, int depth) {
            if (depth > MOST_DEPTH) {
                return;
            }
            int sort = 0;
            long left = place;
            while (sort < IF && left >= waysOf(context, sort, size)) {
                left -= waysOf(context, sort, size);
                sort++;
            }
            tree.append(sort, sort == CONSTANT ? (int) left : 0);
            int a = partContext(context, sort, 0);
            if (partsOf(sort) == 1) {
                grow(a, size - 1, left, depth + 1);
            } else if (partsOf(sort) == 2) {
                growTwo(a, partContext(context, sort, 1), size - 1, left, depth + 1);
            } else if (partsOf(sort) == 3) {
                growThree(a, partContext(context, sort, 1), size - 1, left, depth + 1);
            }
        }

        private void growTwo(int a, int b, int size, long place, int depth) {
            long left = place;
            for (int f = 1; f < size; f++) {
                long seconds = total(b, size - f);
                long here = total(a, f) * seconds;
                if (left < here && seconds > 0) {
                    grow(a, f, left / seconds, depth);
                    grow(b, size - f, left % seconds, depth);
                    return;
                }
                left -= here;
            }
        }

        private void growThree(int a, int b, int size, long place, int depth) {
            long left = place;
            for (int f = 1; f < size - 1; f++) {
                for (int g = 1; g < size - f; g++) {
                    long thirds = total(b, size - f - g);
                    long seconds = total(b, g) * thirds;
                    long here = total(a, f) * seconds;
                    if (left < here && thirds > 0 && seconds > 0) {
                        grow(a, f, left / seconds, depth);
                        grow(b, g, left % seconds / thirds, depth);
                        grow(b, size - f - g, left % thirds, depth);
                        return;
                    }
                    left -= here;
                }
            }
        }

        /** The place of a tree of a size that is in the order; -1 if a constant isn't. */
        long rank(Program p) {
            for (int node = 0; node < p.size; node++) {
                if (p.get(node, 0) == CONSTANT && (p.get(node, 1) < 0 || p.get(node, 1) > 9)) {
                    return -1;
                }
            }
            tree = p;
            shape.measure(p);
            return rankAt(FREE, 0, 1);
        }

        private long rankAt(int context, int node, int depth) {
            if (depth > MOST_DEPTH) {
                return 0;
            }
            int sort = tree.get(node, 0);
            int size = shape.endOf(node) - node;
            int a = partContext(context, sort, 0);
            int b = partContext(context, sort, 1);
            long rank = 0;
            for (int lower = 0; lower < sort; lower++) {
                rank += waysOf(context, lower, size);
            }
            if (partsOf(sort) == 0) {
                return rank + tree.get(node, 1);
            }
            int second = shape.endOf(node + 1);
            int f = second - node - 1;
            long first = rankAt(a, node + 1, depth + 1);
            if (partsOf(sort) == 1) {
                return rank + first;
            }
            int g = shape.endOf(second) - second;
            long next = rankAt(b, second, depth + 1);
            if (partsOf(sort) == 2) {
                return rank + aheadOfTwo(a, b, size - 1, f) + first * total(b, g) + next;
            }
            int h = size - 1 - f - g;
            long last = rankAt(b, second + g, depth + 1);
            return rank + aheadOfThree(a, b, size - 1, f, g)
                    + (first * total(b, g) + next) * total(b, h) + last;
        }

        private long aheadOfTwo(int a, int b, int size, int most) {
            long many = 0;
            for (int f = 1; f < most; f++) {
                many += total(a, f) * total(b, size - f);
            }
            return many;
        }

        private long aheadOfThree(int a, int b, int size, int first, int second) {
            long many = 0;
            for (int f = 1; f < first; f++) {
                many += total(a, f) * twoParts(b, b, size - f);
            }
            return many + total(a, first) * aheadOfTwo(b, b, size - first, second);
        }

        /** The place, among trees without folds, of the least that is right on all seen cases; -1 without one. */
        int sought(Judge by, int most) {
            judge = by;
            seen = judge.listSeen(seenCases);
            for (int k = 0; k < seen; k++) {
                if (values[k] == null) {
                    values[k] = new long[SEARCH_ROOM];
                }
            }
            int found = -1;
            for (int size = 1; found < 0 && size <= most; size++) {
                soughtSize = size;
                found = size == 1 ? sweepLeaves(most > 1) : sweep(size, size < most);
            }
            return found;
        }

        private int sweepLeaves(boolean keep) {
            for (int p = 0; p < 14; p++) {
                if (right(p < 10 ? CONSTANT : p - 9, p, 0, p, keep)) {
                    return p;
                }
            }
            return -1;
        }

        /** Trees of up to five nodes have no place for a truth, so these sorts are all. */
        private int sweep(int size, boolean keep) {
            int base = SEARCH_FROM[size];
            int out = base;
            for (int sort = LESS; sort <= REST; sort++) {
                boolean alone = sort < NOT;
                int most = sort == NOT ? 0 : alone ? size : size - 1;
                for (int f = alone ? size - 1 : 1; f < most; f++) {
                    int g = size - 1 - f;
                    int end = alone ? 1 : SEARCH_FROM[g + 1];
                    for (int a = SEARCH_FROM[f]; a < SEARCH_FROM[f + 1]; a++) {
                        for (int b = SEARCH_FROM[g]; b < end; b++) {
                            if (right(sort, a, b, out, keep)) {
                                return out - base;
                            }
                            out++;
                        }
                    }
                }
            }
            return -1;
        }

        private boolean right(int sort, int a, int b, int out, boolean keep) {
            boolean all = true;
            for (int k = 0; k < seen; k++) {
                long v = outcome(sort, a, b, k);
                if (keep && out < SEARCH_ROOM) {
                    values[k][out] = v;
                }
                all = all && v == judge.fact(seenCases[k], CASE_WANT);
                if (!all && !keep) {
                    return false;
                }
            }
            return all;
        }

        /** What a sort makes of the outcomes of two lesser trees at a seen case; leaves have a for a constant. */
        private long outcome(int sort, int a, int b, int k) {
            int number = seenCases[k];
            int length = judge.fact(number, CASE_LENGTH);
            if (sort < LESS) {
                return sort == CONSTANT ? a : sort == ROW_LENGTH ? length : judge.fact(number, sort - INPUT_X);
            }
            long v = values[k][a];
            long w = sort < PLUS ? 0 : values[k][b];
            if (v == FAULTY || w == FAULTY || (sort == OVER || sort == REST) && w == 0) {
                return FAULTY;
            }
            if (sort == AT) {
                return v < 0 || v >= length ? FAULTY : judge.fact(number, CASE_ROW + (int) v);
            }
            return sort == LESS ? -(int) v : judge.runner.two(sort, (int) v, (int) w);
        }
    }

    /** Makes the edits of a program and the pairs of two. */
    private static final class Changer {
        // A recipe is so many times the kind, and the how, or this for pairs.
        private static final int HOWS = 5;
        private static final int PAIR = 4;
        private static final int NUDGES = 5;
        private static final int CODE_CHANGEABLE = 14;

        final Program out = new Program(2 * MOST_ITEMS);
        private final Program part = new Program(2 * MOST_ITEMS);
        private final Shape shape = new Shape();
        private final Shape mateShape = new Shape();
        private final Shape check = new Shape();
        private Program base = null;
        private Program mate = null;
        private int recipe = 0;
        private int across = 1;
        private int candidates = 0;
        private Program graft = null;
        private int graftFrom = 0;
        private int graftTo = 0;

        /** How many candidates there are for edits, or for pairs with a mate; made() tells which are some. */
        int begin(Program p, Program q, int how) {
            base = p;
            mate = q;
            recipe = HOWS * p.kind + (q == null ? how : PAIR);
            if (p.kind == TREE) {
                shape.ofTree(p);
            }
            if (q != null && p.kind == TREE && q.kind == TREE) {
                mateShape.ofTree(q);
            }
            if (q != null && p.kind == CODE && q.kind == CODE) {
                shape.ofCode(p);
                mateShape.ofCode(q);
            }
            candidates = q == null ? editCandidates(how) : pairCandidates();
            return candidates;
        }

        private int editCandidates(int how) {
            int size = base.size;
            across = base.kind == MACHINE ? size : base.kind == NET ? base.lines * (base.lines - 1) / 2 : 1;
            switch (recipe) {
                case HOWS * TREE + 1:
                    return SORTS * size;
                case HOWS * TREE + 2:
                case HOWS * TREE + 3:
                case HOWS * CODE + 2:
                    return 3 * size;
                case HOWS * CODE + 1:
                    return CODE_CHANGEABLE * size;
                case HOWS * CODE + 3:
                    return NUDGES * (size + 1);
                case HOWS * MACHINE + 1:
                    return CLASSES * size * size;
                case HOWS * MACHINE + 2:
                    return size < MOST_STATES ? CLASSES * size : 0;
                case HOWS * NET:
                    return size * across;
                case HOWS * NET + 1:
                    return size;
                case HOWS * NET + 2:
                    return size < MOST_COMPARATORS ? (size + 1) * across : 0;
                default:
                    return how == 0 ? NUDGES * size : size - 1;
            }
        }

        private int pairCandidates() {
            if (base.kind != mate.kind || base.lines != mate.lines || base.kind == MACHINE && base.size != mate.size) {
                return 0;
            }
            across = base.kind == TREE ? mate.size : mate.size + 1;
            return base.kind == MACHINE ? (1 << base.size) - 2
                    : base.kind == TREE ? base.size * across : (base.size + 1) * across;
        }

        /** How many of the candidates are edits or pairs. */
        int count() {
            int many = 0;
            for (int c = 0; c < candidates; c++) {
                many += made(c) ? 1 : 0;
            }
            return many;
        }

        /** Makes the edit or pair with a number, if there is one. */
        boolean pick(int number) {
            int left = number;
            for (int c = 0; c < candidates && left >= 0; c++) {
                if (made(c)) {
                    if (left == 0) {
                        return true;
                    }
                    left--;
                }
            }
            return false;
        }

        /** Makes a candidate in out, if it is an edit or a pair. */
        boolean made(int c) {
            if (across < 1) {
                return false;
            }
            switch (recipe) {
                case HOWS * TREE:
                    return base.get(c / NUDGES, 0) == CONSTANT && nudged(c / NUDGES, 1, c % NUDGES);
                case HOWS * TREE + 1:
                    return resorted(c / SORTS, c % SORTS);
                case HOWS * TREE + 2:
                    return leafFits(c / 3, c % 3) && grafted(c / 3);
                case HOWS * TREE + 3:
                    return partFits(c / 3, c % 3) && grafted(c / 3);
                case HOWS * TREE + PAIR:
                    return nodesFit(c / across, c % across) && grafted(c / across);
                case HOWS * CODE:
                    return base.get(c / NUDGES, 0) == CONSTANT && nudged(c / NUDGES, 1, c % NUDGES);
                case HOWS * CODE + 1:
                    return reinstructed(c / CODE_CHANGEABLE, c % CODE_CHANGEABLE);
                case HOWS * CODE + 2:
                    return leftOut(c / 3, c % 3 + 1) && check.ofCode(out) < 0;
                case HOWS * CODE + 3:
                    return inserted(c / NUDGES, c % NUDGES) && check.ofCode(out) < 0;
                case HOWS * CODE + PAIR:
                    return joined(c / across, c % across) && check.ofCode(out) < 0;
                case HOWS * MACHINE:
                    return nudged(c / NUDGES, 0, c % NUDGES);
                case HOWS * MACHINE + 1:
                    return edgeMoved(c / across, c % across);
                case HOWS * MACHINE + 2:
                    return stateAdded(c);
                case HOWS * MACHINE + 3:
                    return stateLeftOut(c + 1);
                case HOWS * MACHINE + PAIR:
                    return statesMixed(c + 1);
                case HOWS * NET:
                    return comparatorPut(c / across, c % across, 1);
                case HOWS * NET + 1:
                    return comparatorLeftOut(c);
                case HOWS * NET + 2:
                    return comparatorPut(c / across, c % across, 0);
                case HOWS * NET + 3:
                    return comparatorsSwapped(c);
                default:
                    return joined(c / across, c % across) && out.size <= MOST_COMPARATORS;
            }
        }

        /** Makes a constant another one in one of five ways. */
        private boolean nudged(int i, int what, int by) {
            int old = base.get(i, what);
            int v = by == 0 ? old + 1 : by == 1 ? old - 1 : by == 2 ? old + 10 : by == 3 ? old - 10 : -old;
            if (v == old || v < -MOST_CONSTANT || v > MOST_CONSTANT) {
                return false;
            }
            out.copy(base);
            out.store(i, what, v);
            return true;
        }

        private boolean resorted(int node, int sort) {
            int old = base.get(node, 0);
            int second = shape.partAt(node, 1);
            if (sort == old || partsOf(sort) != partsOf(old) || isTruth(sort) != isTruth(old)
                    || wantsTruth(sort, 0) != wantsTruth(old, 0)) {
                return false;
            }
            if ((sort == CARRIED || sort == EACH) && !shape.inner[node]
                    || sort == FOLD && (shape.inner[node] || second < base.size && shape.folds[second])
                    || old == FOLD && second < base.size && shape.loose[second]) {
                return false;
            }
            out.copy(base);
            out.store(node, 0, sort);
            out.store(node, 1, sort == CONSTANT ? 1 : 0);
            return true;
        }

        private boolean leafFits(int node, int which) {
            int sort = which == 1 ? INPUT_X : CONSTANT;
            int constant = which == 2 ? 1 : 0;
            int old = base.get(node, 0);
            if (isTruth(old) || old == sort && base.get(node, 1) == constant) {
                return false;
            }
            part.start(TREE, 0);
            part.append(sort, constant);
            return toGraft(part, 0, 1);
        }

        private boolean partFits(int node, int k) {
            int sort = base.get(node, 0);
            int at = shape.partAt(node, k);
            if (k >= partsOf(sort) || at >= base.size || wantsTruth(sort, k) != isTruth(sort)
                    || sort == FOLD && k == 1 && shape.loose[at]) {
                return false;
            }
            return toGraft(base, at, shape.endOf(at));
        }

        private boolean nodesFit(int i, int j) {
            return isTruth(base.get(i, 0)) == isTruth(mate.get(j, 0))
                    && shape.deep[i] - 1 + mateShape.tall[j] <= MOST_DEPTH
                    && !(shape.inner[i] && mateShape.folds[j]) && !(mateShape.loose[j] && !shape.inner[i])
                    && toGraft(mate, j, mateShape.endOf(j));
        }

        private boolean toGraft(Program from, int begin, int end) {
            graft = from;
            graftFrom = begin;
            graftTo = end;
            return true;
        }

        /** What is to be grafted comes for a node and all that is in it; false without room. */
        private boolean grafted(int node) {
            out.start(TREE, 0);
            return graft != null && out.take(base, 0, node) && out.take(graft, graftFrom, graftTo)
                    && out.take(base, shape.endOf(node), base.size);
        }

        private static int family(int sort) {
            return sort <= ROW_LENGTH ? 0 : sort <= CODE_AT ? 1 : sort <= CODE_SAME ? 2 : 3;
        }

        private boolean reinstructed(int i, int sort) {
            int old = base.get(i, 0);
            if (sort == old || family(sort) != family(old)) {
                return false;
            }
            out.copy(base);
            out.store(i, 0, sort);
            out.store(i, 1, sort == CONSTANT ? 1 : 0);
            return true;
        }

        private boolean leftOut(int place, int many) {
            if (place + many > base.size) {
                return false;
            }
            out.start(CODE, 0);
            out.take(base, 0, place);
            out.take(base, place + many, base.size);
            for (int i = 0; i < place; i++) {
                int to = i + 1 + base.get(i, 1);
                if (base.get(i, 0) >= JUMP && to > place) {
                    if (to < place + many) {
                        return false;
                    }
                    out.store(i, 1, base.get(i, 1) - many);
                }
            }
            return true;
        }

        private boolean inserted(int place, int which) {
            part.start(CODE, 0);
            if (which == 0) {
                part.append(CODE_LESS, 0);
            } else {
                part.append(which < 3 ? CONSTANT : which == 3 ? INPUT_X : DOUBLE, which < 3 ? 1 : 0);
                part.append(which == 2 ? CODE_MINUS : which == 4 ? CODE_TIMES : CODE_PLUS, 0);
            }
            out.start(CODE, 0);
            if (!out.take(base, 0, place) || !out.take(part, 0, part.size) || !out.take(base, place, base.size)) {
                return false;
            }
            for (int i = 0; i < place; i++) {
                if (base.get(i, 0) >= JUMP && i + 1 + base.get(i, 1) > place) {
                    out.store(i, 1, base.get(i, 1) + part.size);
                }
            }
            return true;
        }

        private boolean edgeMoved(int edge, int to) {
            int state = edge / CLASSES;
            int what = 1 + edge % CLASSES;
            if (base.get(state, what) == to) {
                return false;
            }
            out.copy(base);
            out.store(state, what, to);
            return true;
        }

        private boolean stateAdded(int edge) {
            int to = base.get(edge / CLASSES, 1 + edge % CLASSES);
            out.copy(base);
            if (!out.take(base, to, to + 1)) {
                return false;
            }
            out.store(edge / CLASSES, 1 + edge % CLASSES, base.size);
            return true;
        }

        private boolean stateLeftOut(int gone) {
            out.start(MACHINE, 0);
            out.take(base, 0, gone);
            out.take(base, gone + 1, base.size);
            for (int k = 0; k < CLASSES * out.size; k++) {
                int to = out.get(k / CLASSES, 1 + k % CLASSES);
                out.store(k / CLASSES, 1 + k % CLASSES, to == gone ? 0 : to > gone ? to - 1 : to);
            }
            return true;
        }

        private boolean statesMixed(int mask) {
            out.start(MACHINE, 0);
            for (int k = 0; k < base.size; k++) {
                out.take((mask >> k & 1) == 1 ? mate : base, k, k + 1);
            }
            return true;
        }

        /** The comparator with a number, in the order of i, then j, comes for so many at a place. */
        private boolean comparatorPut(int place, int number, int gone) {
            int left = number;
            int i = 0;
            while (i < base.lines - 1 && left >= base.lines - 1 - i) {
                left -= base.lines - 1 - i;
                i++;
            }
            int j = i + 1 + left;
            if (gone == 1 && base.get(place, 0) == i && base.get(place, 1) == j) {
                return false;
            }
            out.start(NET, base.lines);
            return out.take(base, 0, place) && out.append(i, j) && out.take(base, place + gone, base.size);
        }

        private boolean comparatorLeftOut(int c) {
            out.start(NET, base.lines);
            return out.take(base, 0, c) && out.take(base, c + 1, base.size);
        }

        private boolean comparatorsSwapped(int c) {
            if (base.get(c, 0) == base.get(c + 1, 0) && base.get(c, 1) == base.get(c + 1, 1)) {
                return false;
            }
            out.start(NET, base.lines);
            return out.take(base, 0, c) && out.take(base, c + 1, c + 2) && out.take(base, c, c + 1)
                    && out.take(base, c + 2, base.size);
        }

        private boolean joined(int i, int j) {
            // From j on the second comes to the end with height 1 only if it begins with the height it had.
            if (base.kind == CODE && shape.heights[i] != mateShape.heights[j]) {
                return false;
            }
            out.start(base.kind, base.lines);
            return out.take(base, 0, i) && out.take(mate, j, mate.size);
        }

        /** A drawn tree comes for a drawn node; out is as p if that isn't sound. */
        void regrow(Program p, Stream stream, Ranks ranks) {
            base = p;
            shape.ofTree(p);
            int node = stream.draw(p.size);
            int context = (shape.inner[node] ? Ranks.INNER : Ranks.FREE) + (isTruth(p.get(node, 0)) ? 1 : 0);
            int size = 1 + stream.draw(4);
            while (size < MOST_ORDERED && ranks.total(context, size) == 0) {
                size++;
            }
            ranks.build(context, size, stream.wide(ranks.total(context, size)), part);
            mateShape.ofTree(part);
            toGraft(part, 0, part.size);
            if (shape.deep[node] - 1 + mateShape.tall[0] > MOST_DEPTH || !grafted(node)) {
                out.copy(p);
            }
        }
    }

    /** Makes trees simple, and goes over the rows of that again. */
    private static final class Rules {
        private static final int RULES = 9;
        private static final int NONE = -1;
        private static final int BECOMES_CONSTANT = -2;
        private static final int TURNS = -3;

        final int[] nodes = new int[MOST_ITEMS];
        final int[] numbers = new int[MOST_ITEMS];
        int count = 0;
        private final Shape shape = new Shape();
        private final Program scratch = new Program(2 * MOST_ITEMS);
        private Program tree = null;
        private int constant = 0;

        /** Each rule leaves fewer nodes, so there are fewer rows than nodes. */
        void simplify(Program p, boolean keep) {
            if (keep) {
                count = 0;
            }
            boolean more = true;
            for (int round = 0; more && round < MOST_ITEMS; round++) {
                more = simplifyOnce(p, keep);
            }
        }

        private boolean simplifyOnce(Program p, boolean keep) {
            tree = p;
            shape.measure(p);
            for (int node = p.size - 1; node >= 0; node--) {
                for (int rule = 0; rule < RULES; rule++) {
                    int result = fitting(node, rule);
                    if (result != NONE) {
                        replace(node, result);
                        if (keep && count < nodes.length) {
                            nodes[count] = node;
                            numbers[count] = rule;
                            count++;
                        }
                        return true;
                    }
                }
            }
            return false;
        }

        boolean goOver(Program p) {
            tree = p;
            for (int k = 0; k < count; k++) {
                shape.measure(p);
                int result = nodes[k] < p.size ? fitting(nodes[k], numbers[k]) : NONE;
                if (result == NONE) {
                    return false;
                }
                replace(nodes[k], result);
            }
            return true;
        }

        /** Which node comes for a node by a rule, or what else does; NONE if the rule doesn't fit. */
        private int fitting(int node, int rule) {
            int sort = tree.get(node, 0);
            int a = node + 1;
            int b = shape.endOf(a);
            switch (rule) {
                case 0:
                    return worked(sort, a, b);
                case 1:
                    return neutral(sort, a, b);
                case 2:
                    return (sort == LESS || sort == NOT) && tree.get(a, 0) == sort ? a + 1 : NONE;
                case 3:
                    return decided(sort, a, b);
                case 4:
                    return sort == IF && safe(a) && alike(b, shape.endOf(b)) ? b : NONE;
                case 5:
                    return selfSame(sort, a, b);
                case 6:
                    return sort == IF && tree.get(a, 0) == NOT ? TURNS : NONE;
                case 7:
                    return sort == TIMES && (is(a, 0) && safe(b) || is(b, 0) && safe(a)) ? becomes(0) : NONE;
                default:
                    return sort == REST && is(b, 1) && safe(a) ? becomes(0) : NONE;
            }
        }

        private int becomes(int v) {
            constant = v;
            return v >= -MOST_CONSTANT && v <= MOST_CONSTANT ? BECOMES_CONSTANT : NONE;
        }

        private boolean isConstant(int node) {
            return node < tree.size && tree.get(node, 0) == CONSTANT;
        }

        private boolean is(int node, int v) {
            return node < tree.size && tree.get(node, 0) == CONSTANT && tree.get(node, 1) == v;
        }

        private boolean safe(int node) {
            return tree.safe(node, shape.endOf(node));
        }

        private boolean alike(int a, int b) {
            int size = shape.endOf(a) - a;
            if (size != shape.endOf(b) - b) {
                return false;
            }
            for (int k = 0; k < size; k++) {
                if (tree.get(a + k, 0) != tree.get(b + k, 0) || tree.get(a + k, 1) != tree.get(b + k, 1)) {
                    return false;
                }
            }
            return true;
        }

        private int worked(int sort, int a, int b) {
            if (sort < LESS || !isConstant(a)) {
                return NONE;
            }
            int v = tree.get(a, 1);
            if (sort == LESS) {
                return becomes(-v);
            }
            if (sort < PLUS || sort > REST || !isConstant(b)) {
                return NONE;
            }
            int w = tree.get(b, 1);
            if (sort == PLUS || sort == MINUS || sort == TIMES) {
                return becomes(sort == PLUS ? v + w : sort == MINUS ? v - w : v * w);
            }
            return w == 0 ? NONE : becomes(sort == OVER ? v / w : v % w);
        }

        private int neutral(int sort, int a, int b) {
            int plain = sort == PLUS || sort == MINUS ? 0 : 1;
            if (sort < PLUS || sort > OVER) {
                return NONE;
            }
            if (is(b, plain)) {
                return a;
            }
            return (sort == PLUS || sort == TIMES) && is(a, plain) ? b : NONE;
        }

        private int decided(int sort, int a, int b) {
            int asked = tree.get(a, 0);
            if (sort != IF || asked != BELOW && asked != SAME || !isConstant(a + 1) || !isConstant(a + 2)) {
                return NONE;
            }
            int v = tree.get(a + 1, 1);
            int w = tree.get(a + 2, 1);
            return (asked == BELOW ? v < w : v == w) ? b : shape.endOf(b);
        }

        private int selfSame(int sort, int a, int b) {
            if (sort == MINUS) {
                return alike(a, b) && safe(a) ? becomes(0) : NONE;
            }
            int asked = tree.get(a, 0);
            if (sort != IF || asked != BELOW && asked != SAME
                    || !alike(a + 1, shape.endOf(a + 1)) || !safe(a + 1)) {
                return NONE;
            }
            return asked == SAME ? b : shape.endOf(b);
        }

        private void replace(int node, int result) {
            int end = shape.endOf(node);
            scratch.start(TREE, 0);
            scratch.take(tree, 0, node);
            if (result == BECOMES_CONSTANT) {
                scratch.append(CONSTANT, constant);
            } else if (result == TURNS) {
                int b = shape.endOf(node + 1);
                int c = shape.endOf(b);
                scratch.append(IF, 0);
                scratch.take(tree, node + 2, b);
                scratch.take(tree, c, end);
                scratch.take(tree, b, c);
            } else {
                scratch.take(tree, result, shape.endOf(result));
            }
            scratch.take(tree, end, tree.size);
            tree.copy(scratch);
        }
    }

    /** Turns programs into one another, and tells what machines and nets do. */
    private static final class Turner {
        private final Shape shape = new Shape();
        private final Program[] pile = new Program[MOST_HEIGHT];
        private final Program scratch = new Program(2 * MOST_ITEMS);
        private int height = 0;
        private Program tree = null;
        private Program code = null;
        private final boolean[] unlike = new boolean[MOST_STATES * MOST_STATES];
        private final int[] names = new int[MOST_STATES];
        private final int[] queue = new int[MOST_STATES * MOST_STATES];
        private final int[] cameFrom = new int[MOST_STATES * MOST_STATES];
        private final int[] levels = new int[MOST_ROW];

        Turner() {
            for (int k = 0; k < MOST_HEIGHT; k++) {
                pile[k] = new Program(2 * MOST_ITEMS);
            }
        }

        int depthOf(Program p) {
            shape.ofTree(p);
            return p.size > 0 ? shape.tall[0] : 0;
        }

        /** The code of a tree, if it has one. */
        boolean codeOf(Program p, Program target) {
            tree = p;
            code = target;
            shape.measure(p);
            target.start(CODE, 0);
            return emit(0, 1) && shape.ofCode(target) < 0;
        }

        private boolean emit(int node, int depth) {
            int sort = tree.get(node, 0);
            if (depth > MOST_DEPTH || sort == CARRIED || sort == EACH || sort == FOLD) {
                return false;
            }
            if (sort < LESS) {
                return code.append(sort, tree.get(node, 1));
            }
            int second = shape.endOf(node + 1);
            if (!emit(node + 1, depth + 1)) {
                return false;
            }
            if (sort == NOT) {
                return code.append(CONSTANT, 0) && code.append(CODE_SAME, 0);
            }
            if (sort < PLUS) {
                return code.append(sort - 2, 0);
            }
            if (sort == AND) {
                return emitAnd(second, depth + 1);
            }
            if (sort == OR) {
                return emitOr(second, depth + 1);
            }
            if (sort == IF) {
                return emitIf(second, depth + 1);
            }
            return emit(second, depth + 1) && code.append(sort - 3, 0);
        }

        private boolean emitAnd(int second, int depth) {
            int branch = code.size;
            if (!code.append(BRANCH, 0) || !emit(second, depth) || !code.append(JUMP, 1)) {
                return false;
            }
            code.store(branch, 1, code.size - branch - 1);
            return code.append(CONSTANT, 0);
        }

        private boolean emitOr(int second, int depth) {
            if (!code.append(BRANCH, 2) || !code.append(CONSTANT, 1)) {
                return false;
            }
            int jump = code.size;
            if (!code.append(JUMP, 0) || !emit(second, depth)) {
                return false;
            }
            code.store(jump, 1, code.size - jump - 1);
            return true;
        }

        private boolean emitIf(int second, int depth) {
            int branch = code.size;
            if (!code.append(BRANCH, 0) || !emit(second, depth)) {
                return false;
            }
            int jump = code.size;
            if (!code.append(JUMP, 0)) {
                return false;
            }
            code.store(branch, 1, code.size - branch - 1);
            if (!emit(shape.endOf(second), depth)) {
                return false;
            }
            code.store(jump, 1, code.size - jump - 1);
            return true;
        }

        /** A program's tree, if it has one. */
        boolean treeOf(Program p, Program target) {
            if (p.kind == TREE) {
                target.copy(p);
                return true;
            }
            if (p.kind != CODE) {
                return false;
            }
            height = 0;
            for (int i = 0; i < p.size; i++) {
                if (!laid(p.get(i, 0), p.get(i, 1))) {
                    return false;
                }
            }
            target.start(TREE, 0);
            return height == 1 && takeNumber(target, pile[0]) && depthOf(target) <= MOST_DEPTH;
        }

        /** What an instruction does on a pile of trees; false if the code has no tree. */
        private boolean laid(int sort, int constant) {
            if (height < Shape.needs(sort) || height + Shape.grows(sort) > MOST_HEIGHT || sort >= JUMP) {
                return false;
            }
            if (sort <= ROW_LENGTH) {
                pile[height].start(TREE, 0);
                pile[height].append(sort, constant);
            } else if (sort <= CODE_SAME) {
                int many = Shape.needs(sort);
                scratch.start(TREE, 0);
                scratch.append(many == 1 ? sort + 2 : sort + 3, 0);
                if (!takeNumber(scratch, pile[height - many])
                        || many == 2 && !takeNumber(scratch, pile[height - 1]) || depthOf(scratch) > MOST_DEPTH) {
                    return false;
                }
                pile[height - many].copy(scratch);
            } else if (sort == DOUBLE) {
                pile[height].copy(pile[height - 1]);
            } else if (!pile[height - 1].safe(0, pile[height - 1].size)
                    && (sort == TAKE || !pile[height - 2].safe(0, pile[height - 2].size))) {
                return false;
            } else if (sort == SWAP) {
                Program upper = pile[height - 1];
                pile[height - 1] = pile[height - 2];
                pile[height - 2] = upper;
            }
            height += Shape.grows(sort);
            return true;
        }

        /** Appends a tree of the pile, a truth as the number that it stands for; false without room. */
        private static boolean takeNumber(Program target, Program from) {
            if (!isTruth(from.get(0, 0))) {
                return target.take(from, 0, from.size);
            }
            return target.append(IF, 0) && target.take(from, 0, from.size)
                    && target.append(CONSTANT, 1) && target.append(CONSTANT, 0);
        }

        /** The machine with the least states that does the same. */
        void lessen(Program p, Program target) {
            tellApart(p);
            Arrays.fill(names, -1);
            names[0] = 0;
            int many = 1;
            queue[0] = 0;
            target.start(MACHINE, 0);
            for (int k = 0; k < many && k < MOST_STATES; k++) {
                target.append(p.get(queue[k], 0), 0);
                for (int c = 0; c < CLASSES; c++) {
                    int to = standIn(p, p.get(queue[k], 1 + c));
                    if (names[to] < 0 && many < MOST_STATES) {
                        names[to] = many;
                        queue[many] = to;
                        many++;
                    }
                    target.store(k, 1 + c, names[to]);
                }
            }
        }

        /** The least state that can't be told from one. */
        private int standIn(Program p, int state) {
            for (int k = 0; k < p.size; k++) {
                if (!unlike[MOST_STATES * k + state]) {
                    return k;
                }
            }
            return state;
        }

        private void tellApart(Program p) {
            int many = MOST_STATES * p.size;
            for (int k = 0; k < many; k++) {
                unlike[k] = p.get(k / MOST_STATES, 0) != p.get(k % MOST_STATES, 0);
            }
            // Each round but the last tells two more states apart, and there are at most six.
            for (int round = 0; round < MOST_STATES; round++) {
                for (int k = 0; k < many * CLASSES; k++) {
                    int i = k / CLASSES / MOST_STATES;
                    int j = k / CLASSES % MOST_STATES;
                    int c = 1 + k % CLASSES;
                    int at = MOST_STATES * p.get(i, c) + p.get(j, c);
                    unlike[k / CLASSES] = unlike[k / CLASSES] || unlike[at];
                }
            }
        }

        /** Whether a row tells two machines apart: the shortest, and of these the least, is found first. */
        boolean machinesUnlike(Program p, Program q, int[] witness) {
            Arrays.fill(cameFrom, -1);
            queue[0] = 0;
            int many = 1;
            for (int k = 0; k < many && k < queue.length; k++) {
                int i = queue[k] / MOST_STATES;
                int j = queue[k] % MOST_STATES;
                if (p.get(i, 0) != q.get(j, 0)) {
                    tellWay(queue[k], witness);
                    return true;
                }
                for (int c = 0; c < CLASSES; c++) {
                    int to = MOST_STATES * p.get(i, 1 + c) + q.get(j, 1 + c);
                    if (to != 0 && cameFrom[to] < 0 && many < queue.length) {
                        cameFrom[to] = CLASSES * queue[k] + c;
                        queue[many] = to;
                        many++;
                    }
                }
            }
            return false;
        }

        private void tellWay(int last, int[] witness) {
            int length = 0;
            for (int at = last; at != 0 && length < MOST_STATES * MOST_STATES; at = cameFrom[at] / CLASSES) {
                length++;
            }
            Arrays.fill(witness, 0);
            witness[3] = length;
            int at = last;
            for (int k = length - 1; k >= 0; k--) {
                if (4 + k < witness.length) {
                    witness[4 + k] = cameFrom[at] % CLASSES;
                }
                at = cameFrom[at] / CLASSES;
            }
        }

        private static int exchanged(int bits, int i, int j) {
            return (bits >> i & 1) > (bits >> j & 1) ? bits ^ (1 << i | 1 << j) : bits;
        }

        private static int sorted(Program net, int row) {
            int bits = row;
            for (int c = 0; c < net.size; c++) {
                bits = exchanged(bits, net.get(c, 0), net.get(c, 1));
            }
            return bits;
        }

        /** Exchanges go by which is greater alone, so nets are alike on all rows if they are on zero-one rows. */
        boolean netsUnlike(Program p, Program q, int[] witness) {
            int middle = (p.lines - 1) / 2;
            for (int row = 0; row < 1 << p.lines; row++) {
                if (((sorted(p, row) ^ sorted(q, row)) >> middle & 1) == 1) {
                    Arrays.fill(witness, 0);
                    witness[3] = p.lines;
                    for (int k = 0; k < p.lines; k++) {
                        witness[4 + k] = row >> k & 1;
                    }
                    return true;
                }
            }
            return false;
        }

        void tidy(Program net, Program target) {
            long active = 0;
            for (int row = 0; row < 1 << net.lines; row++) {
                int bits = row;
                for (int c = 0; c < net.size; c++) {
                    int after = exchanged(bits, net.get(c, 0), net.get(c, 1));
                    active |= after != bits ? 1L << c : 0;
                    bits = after;
                }
            }
            target.start(NET, net.lines);
            for (int c = 0; c < net.size; c++) {
                if ((active >> c & 1) == 1) {
                    target.take(net, c, c + 1);
                }
            }
        }

        int firstUnsorted(Program net) {
            for (int row = 0; row < 1 << net.lines; row++) {
                int bits = sorted(net, row);
                int ones = Integer.bitCount(bits);
                if (bits != (1 << net.lines) - (1 << net.lines - ones)) {
                    return row;
                }
            }
            return -1;
        }

        int layersOf(Program net) {
            Arrays.fill(levels, 0);
            int most = 0;
            for (int c = 0; c < net.size; c++) {
                int i = net.get(c, 0);
                int j = net.get(c, 1);
                if (i >= 0 && i < levels.length && j >= 0 && j < levels.length) {
                    int level = Math.max(levels[i], levels[j]) + 1;
                    levels[i] = level;
                    levels[j] = level;
                    most = Math.max(most, level);
                }
            }
            return most;
        }
    }
}
