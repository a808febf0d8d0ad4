import java.util.ArrayList;
import java.util.List;
import java.util.stream.IntStream;

/**
 * Why the class's rows have room for 16 sets of things (MOST_PLACES): a dive adds, of the things whose needs are there,
 * the shallowest ones, so that sets come by needs and by the order of depths alone; here are all of both, for six things.
 * Things of like depths come together, things that are there at first leave fewer to come: neither makes more sets.
 */
public final class MostSetsTest extends Due {
    private static final int THINGS = 6;
    // Thing 1 can need 1 thing, thing 2 two of them, up to five.
    private static final int ALL_NEEDS = 1 << (1 + 2 + 3 + 4 + 5);

    private MostSetsTest() { }

    public static void main(String[] args) {
        List<int[]> orders = new ArrayList<>();
        addOrders(new int[THINGS], 0, 0, orders);
        about("sets of six things from one stand");
        due("orders of depth", orders.size(), 720);
        due("the most", IntStream.range(0, ALL_NEEDS).parallel().map(code -> most(needsOf(code), orders)).max().getAsInt(), 16);
        end("MostSetsTest");
    }

    private static void addOrders(int[] order, int size, int taken, List<int[]> orders) {
        if (size == THINGS) orders.add(order.clone());
        for (int t = 0; t < THINGS; t++) {
            if ((taken >> t & 1) == 0 && size < THINGS) {
                order[size] = t;
                addOrders(order, size + 1, taken | 1 << t, orders);
            }
        }
    }

    private static int[] needsOf(int code) {
        int[] needs = new int[THINGS];
        int rest = code;
        for (int t = 1; t < THINGS; t++) {
            needs[t] = rest & (1 << t) - 1;
            rest >>= t;
        }
        return needs;
    }

    private static int most(int[] needs, List<int[]> orders) {
        int most = 0;
        for (int[] order : orders) most = Math.max(most, sets(needs, order));
        return most;
    }

    /** How many sets can come to be there, by dives as deep as one likes. */
    private static int sets(int[] needs, int[] order) {
        int[] queue = new int[1 << THINGS];
        long seen = 1;
        int size = 1;
        for (int i = 0; i < size; i++) {
            int set = queue[i];
            for (int t : order) {
                if ((needs[t] & ~queue[i]) == 0) set |= 1 << t;
                if ((seen >> set & 1) == 0) {
                    seen |= 1L << set;
                    queue[size++] = set;
                }
            }
        }
        return size;
    }
}
