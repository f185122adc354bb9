/** Promises 14 to 18: put, add, drop, cases, told. */
public final class CasesTest {
    private static final Check C = new Check();

    public static void main(String[] args) {
        rows();
        adding();
        dropping();
        C.end();
    }

    private static void caseIs(BreedingHouse h, int k, int... due) {
        for (int what = 0; what < 15; what++) {
            C.is("told(" + k + ", " + what + ")", h.told(k, what), what < due.length ? due[what] : 0);
        }
    }

    private static void rows() {
        BreedingHouse h = new BreedingHouse();
        for (int k = 1; k <= 8; k++) {
            C.is("put", h.put(-k), k);
        }
        C.is("a ninth", h.put(9), -1);
        C.is("add", h.add(1, 2, 3, 4, 5, true), 0);
        caseIs(h, 0, 1, 2, 3, 4, 5, 1, 8, -1, -2, -3, -4, -5, -6, -7, -8);
        C.is("the row is empty then", h.put(Integer.MIN_VALUE), 1);
        C.is("add", h.add(-1, -2, -3, Integer.MAX_VALUE, 9, false), 1);
        caseIs(h, 1, -1, -2, -3, Integer.MAX_VALUE, 9, 0, 1, Integer.MIN_VALUE);
        C.is("add without a row", h.add(0, 0, 0, 0, 1, false), 2);
        caseIs(h, 2, 0, 0, 0, 0, 1);
    }

    private static void adding() {
        BreedingHouse h = new BreedingHouse();
        h.put(7);
        C.fails("weight 0", Check.ARGUMENT, () -> h.add(0, 0, 0, 0, 0, false));
        C.fails("weight 10", Check.ARGUMENT, () -> h.add(0, 0, 0, 0, 10, false));
        C.is("nothing changed", h.put(8), 2);
        for (int k = 0; k < 24; k++) {
            C.is("add", h.add(k, 0, 0, 0, 1, false), k);
        }
        C.is("the first has the row", h.told(0, 8), 8);
        C.is("cases()", h.cases(), 24);
        h.put(3);
        C.fails("a 25th", Check.STATE, () -> h.add(0, 0, 0, 0, 1, false));
        C.fails("the weight first", Check.ARGUMENT, () -> h.add(0, 0, 0, 0, 0, false));
        C.is("the row stays", h.put(4), 2);
        C.is("drop", h.drop(23), 23);
        C.is("room again", h.add(0, 0, 0, 0, 1, false), 23);
        C.is("with the row", h.told(23, 6), 2);
    }

    private static void dropping() {
        BreedingHouse h = new BreedingHouse();
        C.fails("none there", Check.INDEX, () -> h.drop(0));
        for (int k = 0; k < 5; k++) {
            Check.put(h, 10 * k, k);
            h.add(k, k, k, k, 1 + k, k % 2 == 1);
        }
        C.is("drop", h.drop(1), 4);
        caseIs(h, 0, 0, 0, 0, 0, 1, 0, 2, 0, 0);
        caseIs(h, 1, 2, 2, 2, 2, 3, 0, 2, 20, 2);
        caseIs(h, 3, 4, 4, 4, 4, 5, 0, 2, 40, 4);
        C.is("drop the last", h.drop(3), 3);
        C.is("drop the first", h.drop(0), 2);
        caseIs(h, 1, 3, 3, 3, 3, 4, 1, 2, 30, 3);
        C.fails("drop(2)", Check.INDEX, () -> h.drop(2));
        C.fails("drop(-1)", Check.INDEX, () -> h.drop(-1));
        C.fails("told(2, 0)", Check.INDEX, () -> h.told(2, 0));
        C.fails("told(-1, 99)", Check.INDEX, () -> h.told(-1, 99));
        C.fails("told what 15", Check.ARGUMENT, () -> h.told(0, 15));
        C.fails("told what -1", Check.ARGUMENT, () -> h.told(0, -1));
        C.is("cases()", h.cases(), 2);
    }
}
