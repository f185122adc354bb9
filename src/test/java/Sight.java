/** All that can be seen of a house, so that two can be held against one another. Looking itself changes a house. */
final class Sight {
    private final BreedingHouse house;
    private final StringBuilder seen = new StringBuilder();

    private Sight(BreedingHouse h) {
        house = h;
    }

    static String of(BreedingHouse h) {
        Sight sight = new Sight(h);
        sight.latest();
        sight.births();
        sight.cases();
        sight.islands();
        sight.settings();
        sight.collected();
        sight.streams();
        return sight.seen.toString();
    }

    private void tell(String what, long... numbers) {
        seen.append(what);
        for (long v : numbers) {
            seen.append(' ').append(v);
        }
        seen.append('\n');
    }

    private void latest() {
        tell("latest run", house.value(), house.used());
        tell("rows", house.rows());
        for (int k = 0; k < house.rows(); k++) {
            tell("row", house.row(k, 0), house.row(k, 1));
        }
        for (int what = 0; what < 15; what++) {
            tell("witness", house.witness(what));
        }
    }

    private void births() {
        tell("births", house.births());
        for (int b = 0; b < house.births(); b++) {
            tell(Check.print(house, b), house.seed(b));
            for (int what = 0; what < 9; what++) {
                tell("birth", house.birth(b, what));
            }
        }
    }

    private void cases() {
        tell("cases", house.cases());
        for (int k = 0; k < house.cases(); k++) {
            for (int what = 0; what < 15; what++) {
                tell("told", house.told(k, what));
            }
        }
    }

    private void islands() {
        for (int island = 0; island < 4; island++) {
            tell("members", house.members(island));
            for (int place = 0; place < house.members(island); place++) {
                tell("member", house.member(island, place));
            }
        }
    }

    private void settings() {
        int[] least = {10, 0, 1, 0, 0};
        for (int what = 0; what < 5; what++) {
            tell("setting", house.set(what, least[what]));
        }
    }

    private void collected() {
        tell("text", house.type(0));
        if (house.births() < 600) {
            tell("read", house.read(0));
        }
        if (house.cases() == 24) {
            house.drop(0);
        }
        int k = house.add(0, 0, 0, 0, 1, false);
        for (int what = 6; what < 15; what++) {
            tell("row", house.told(k, what));
        }
    }

    /** What is bred next shows an island's stream. */
    private void streams() {
        for (int island = 0; island < 4; island++) {
            int from = house.births();
            if (house.members(island) > 0 && from + house.members(island) <= 600) {
                house.breed(island, 1);
            }
            for (int b = from; b < house.births(); b++) {
                tell(Check.print(house, b), house.seed(b), house.birth(b, 3));
            }
        }
    }
}
