import com.sun.management.ThreadMXBean;
import java.lang.management.ManagementFactory;

/** All calls of one run live in one room: what they make together is small, however dear the calls are. */
public final class RoomTest {
    private static final Check C = new Check();
    private static final long MOST_BYTES = 8_000_000L;

    public static void main(String[] args) {
        ThreadMXBean bean = (ThreadMXBean) ManagementFactory.getThreadMXBean();
        long sum = dearRun();
        long id = Thread.currentThread().getId();
        long before = bean.getThreadAllocatedBytes(id);
        sum += dearRun();
        long made = bean.getThreadAllocatedBytes(id) - before;
        System.out.println("a dear run makes " + made + " bytes (" + sum + ")");
        C.is("a dear run is small", made < MOST_BYTES, true);
        C.end();
    }

    /** 512 calls of the dear kinds on one object. */
    private static long dearRun() {
        BreedingHouse h = new BreedingHouse();
        long sum = 0;
        int calls = 1;
        for (int k = 0; k < 24; k++, calls++) {
            h.add(k, 3 * k, k - 7, 5 * k + 1, 1 + k % 9, false);
        }
        for (int island = 0; island < 4; island++, calls += 2) {
            h.populate(island, island, 16, island == 2 ? 6 : 8, island);
            sum += h.breed(island, 7);
        }
        for (int k = 0; calls < 512; k++, calls++) {
            int b = k * 7 % h.births();
            switch (k % 12) {
                case 0: sum += h.search(5); break;
                case 1: sum += h.robust(b, k / 12 % 4, 1); break;
                case 2: sum += h.pairs(b, (b + 1) % h.births()); break;
                case 3: sum += h.equal(b, (b + 1) % h.births()); break;
                case 4: sum += h.novelty(k / 12 % 4, 3); break;
                case 5: sum += h.edits(b, k / 12 % 4); break;
                case 6: sum += h.front(k / 12 % 4, 1); break;
                case 7: sum += h.printed(b) + h.line(b); break;
                case 8: sum += h.births() < 600 ? h.minimal(b) : 0; break;
                case 9: sum += h.birth(b, 0) == 3 ? h.unsorted(b) : 0; break;
                case 10: sum += h.compare(b, 0); break;
                default: sum += h.letter(b, 5); break;
            }
        }
        return sum;
    }
}
