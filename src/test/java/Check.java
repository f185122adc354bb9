/** What the tests share: texts in and out of a house, and answers held against those that are due. */
final class Check {
    static final Class<? extends RuntimeException> INDEX = IndexOutOfBoundsException.class;
    static final Class<? extends RuntimeException> ARGUMENT = IllegalArgumentException.class;
    static final Class<? extends RuntimeException> STATE = IllegalStateException.class;

    private int wrong = 0;
    private String sentence = "";

    /** What the answers that follow are due by: words of the document, which must stand in that part of it. */
    void about(String part, String words) {
        sentence = "[" + part + ": " + words + "] ";
        is("the document has these words", Document.says(part, words), true);
    }

    static void type(BreedingHouse house, String text) {
        for (int from = 0; from < text.length(); from += 8) {
            long eight = 0;
            for (int k = from; k < text.length() && k < from + 8; k++) {
                eight |= (long) text.charAt(k) << 8 * (k - from);
            }
            house.type(eight);
        }
    }

    static int read(BreedingHouse house, int kind, String text) {
        type(house, text);
        return house.read(kind);
    }

    static int tree(BreedingHouse house, String text) {
        return read(house, 0, text);
    }

    static int code(BreedingHouse house, String text) {
        return read(house, 1, text);
    }

    static int machine(BreedingHouse house, String text) {
        return read(house, 2, text);
    }

    static int net(BreedingHouse house, String text) {
        return read(house, 3, text);
    }

    static String print(BreedingHouse house, int b) {
        StringBuilder text = new StringBuilder();
        int length = house.printed(b);
        for (int i = 0; i < length; i++) {
            text.append((char) house.letter(b, i));
        }
        return text.toString();
    }

    /** All edits of a how, printed, with / between; the house must have room for them. */
    static String edits(BreedingHouse house, int b, int how) {
        StringBuilder all = new StringBuilder();
        int many = house.edits(b, how);
        for (int i = 0; i < many; i++) {
            all.append(i == 0 ? "" : "/").append(print(house, house.edit(b, how, i)));
        }
        return all.toString();
    }

    static void put(BreedingHouse house, int... row) {
        for (int v : row) {
            house.put(v);
        }
    }

    /** Fills the house up to so many births by populations of the last island, with few calls. */
    static void fill(BreedingHouse house, int births) {
        while (house.births() < births) {
            house.populate(3, 0, Math.min(16, births - house.births()), 1, 0);
        }
    }

    static String repeat(String part, int times) {
        StringBuilder all = new StringBuilder();
        for (int k = 0; k < times; k++) {
            all.append(part);
        }
        return all.toString();
    }

    void is(String what, long got, long want) {
        if (got != want) {
            wrong++;
            System.out.println(sentence + what + " answered " + got + ", due is " + want);
        }
    }

    void is(String what, boolean got, boolean want) {
        is(what, got ? 1 : 0, want ? 1 : 0);
    }

    void is(String what, String got, String want) {
        if (!got.equals(want)) {
            wrong++;
            System.out.println(sentence + what + " answered " + got + ", due is " + want);
        }
    }

    void fails(String what, Class<? extends RuntimeException> due, Runnable call) {
        try {
            call.run();
            wrong++;
            System.out.println(sentence + what + " threw nothing, due is " + due.getName());
        } catch (RuntimeException e) {
            if (e.getClass() != due) {
                wrong++;
                System.out.println(sentence + what + " threw " + e + ", due is " + due.getName());
            }
        }
    }

    /** All edits of what is read of a text, printed, are these. */
    void editsAre(int kind, String text, int how, String due) {
        BreedingHouse h = new BreedingHouse();
        int b = read(h, kind, text);
        is("edits " + how + " of " + text, edits(h, b, how), due);
    }

    void editsMany(int kind, String text, int how, int due) {
        BreedingHouse h = new BreedingHouse();
        is("edits " + how + " of " + text, h.edits(read(h, kind, text), how), due);
    }

    void pairsMany(int kind, String a, String b, int due) {
        BreedingHouse h = new BreedingHouse();
        is("pairs of " + a + " and " + b, h.pairs(read(h, kind, a), read(h, kind, b)), due);
    }

    void leastIs(String text, String due) {
        BreedingHouse h = new BreedingHouse();
        int b = machine(h, text);
        int c = h.least(b);
        is("least of " + text, print(h, c), due);
        is("equal", h.equal(b, c), 1);
    }

    /** Numbers that aren't told are 0. */
    void witnessIs(BreedingHouse h, int... due) {
        for (int what = 0; what < 15; what++) {
            is("witness(" + what + ")", h.witness(what), what < due.length ? due[what] : 0);
        }
    }

    void end() {
        System.out.println(wrong == 0 ? "all answers are as due" : wrong + " answers are not as due");
        if (wrong != 0) {
            System.exit(1);
        }
    }
}
