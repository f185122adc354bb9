import java.util.ArrayList;
import java.util.List;

/** A generation done by hand, as Term 7 tells it, with calls of compare(), error(), front(), cross() and change(). */
final class ByHand {
    int elites = 1;
    int tournament = 3;
    int crossing = 30;
    int choice = 0;
    private final BreedingHouse house;
    private final Draws draws;
    private List<Integer> members = new ArrayList<>();
    private List<Integer> front = new ArrayList<>();

    ByHand(BreedingHouse h, Draws stream) {
        house = h;
        draws = stream;
    }

    static List<Integer> members(BreedingHouse h, int island) {
        List<Integer> members = new ArrayList<>();
        for (int k = 0; k < h.members(island); k++) {
            members.add(h.member(island, k));
        }
        return members;
    }

    static List<Integer> front(BreedingHouse h, int island) {
        List<Integer> front = new ArrayList<>();
        for (int k = 0; h.front(island, k) >= 0; k++) {
            front.add(h.front(island, k));
        }
        return front;
    }

    /** The front as Term 7 tells it, by score() and birth(). */
    static List<Integer> dueFront(BreedingHouse h, int island) {
        List<Integer> due = new ArrayList<>();
        List<Integer> members = members(h, island);
        for (int b : members) {
            boolean in = true;
            for (int c : members) {
                long score = h.score(c, false, 0) * h.score(b, false, 1) - h.score(b, false, 0) * h.score(c, false, 1);
                int size = h.birth(c, 1) - h.birth(b, 1);
                in = in && !(score <= 0 && size <= 0 && (score < 0 || size < 0));
            }
            if (in) {
                due.add(b);
            }
        }
        return due;
    }

    /** The members that come of these, whose front is known. */
    List<Integer> generation(List<Integer> from, List<Integer> itsFront) {
        members = from;
        front = itsFront;
        List<Integer> order = new ArrayList<>(members);
        order.sort((a, b) -> house.compare(a, b));
        int kept = Math.min(elites, members.size());
        List<Integer> next = new ArrayList<>(order.subList(0, kept));
        boolean trees = house.birth(members.get(0), 0) == 0;
        for (int k = kept; k < members.size(); k++) {
            if (draws.draw(100) < crossing) {
                int a = chosen();
                int b = chosen();
                next.add(house.cross(a, b, draws.wide(1L << 62)));
            } else {
                int a = chosen();
                int how = draws.draw(trees ? 5 : 4);
                next.add(house.change(a, how, draws.wide(1L << 62)));
            }
        }
        return next;
    }

    private int chosen() {
        if (choice == 2) {
            return front.get(draws.draw(front.size()));
        }
        return choice == 1 ? byCases() : byTournament();
    }

    private int byTournament() {
        int best = members.get(draws.draw(members.size()));
        for (int k = 1; k < tournament; k++) {
            int next = members.get(draws.draw(members.size()));
            best = house.compare(next, best) < 0 ? next : best;
        }
        return best;
    }

    private int byCases() {
        List<Integer> order = new ArrayList<>();
        for (int k = 0; k < house.cases(); k++) {
            if (house.told(k, 5) == 0) {
                order.add(k);
            }
        }
        for (int k = order.size() - 1; k >= 1; k--) {
            int at = draws.draw(k + 1);
            int moved = order.get(k);
            order.set(k, order.get(at));
            order.set(at, moved);
        }
        List<Integer> left = new ArrayList<>(members);
        for (int k : order) {
            int least = Integer.MAX_VALUE;
            for (int b : left) {
                least = Math.min(least, house.error(b, k));
            }
            int due = least;
            left.removeIf(b -> house.error(b, k) != due);
        }
        return left.get(0);
    }
}
