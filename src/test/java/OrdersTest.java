import java.util.Arrays;
import java.util.Random;

/** Promises 8 to 11 with all 8 acts: each plan is compared with every order of every set of acts. */
public final class OrdersTest {
    private static final int ACTS = 8;
    private static final int DAY = 5;

    private final Random random;
    private final CaseLists lists = new CaseLists(10);
    private final int cases;
    private final int[] places = new int[ACTS];
    private final int[] seconds = new int[ACTS];
    private final int[] shown = new int[ACTS];
    private final int[][] ways = new int[10][10];
    private int proved = 0;

    private final int[] order = new int[ACTS];
    private int[] best;
    private int bestSum;

    private OrdersTest(int seed) {
        random = new Random(seed);
        cases = 1 + random.nextInt(24);
        for (int i = 0; i < cases; i++) {
            lists.fault(i, CaseLists.NONE);
        }
        tellActs();
        tellWays();
        proveSome();
    }

    public static void main(String[] args) {
        for (int seed = 0; seed < 300; seed++) {
            OrdersTest one = new OrdersTest(seed);
            one.comparePlan("seed " + seed + ": ");
            one.compareFrom("seed " + seed + ": ");
        }
        Check.end();
    }

    /** Small bounds make many orders alike, so that the rules for several of them are needed. */
    private int mostSeconds() {
        return random.nextInt(4) == 0 ? 10000 : 1 + random.nextInt(6);
    }

    private void tellActs() {
        int most = mostSeconds();
        int oneIn = 1 + random.nextInt(6);
        int usedPlaces = 1 + random.nextInt(10);
        for (int act = 0; act < ACTS; act++) {
            places[act] = random.nextInt(usedPlaces);
            seconds[act] = 1 + random.nextInt(most);
            lists.act(places[act], seconds[act]);
            for (int fault = 0; fault < cases; fault++) {
                if (random.nextInt(oneIn) == 0) {
                    shown[act] |= 1 << fault;
                    lists.shows(act, fault, true);
                }
            }
        }
    }

    private void tellWays() {
        int most = mostSeconds();
        for (int place = 0; place < 10; place++) {
            for (int other = 0; other < place; other++) {
                int way = random.nextInt(most + 1);
                ways[place][other] = way;
                ways[other][place] = way;
                lists.way(place, other, way);
            }
        }
    }

    private void proveSome() {
        for (int fault = 0; fault < cases; fault++) {
            if (random.nextInt(5) == 0) {
                Samples.prove(lists, fault, DAY);
                proved |= 1 << fault;
            }
        }
    }

    private int shownByAny() {
        int all = 0;
        for (int one : shown) {
            all |= one;
        }
        return all;
    }

    private void comparePlan(String run) {
        best = null;
        tryOrders(shownByAny() & ~proved, 0, 0, 0, 0);
        Check.due(run + "plan", best.length, () -> lists.plan(DAY));
        Check.due(run + "seconds", bestSum, () -> lists.seconds());
        for (int i = 0; i < best.length; i++) {
            int k = i;
            Check.due(run + "planned " + k, best[k], () -> lists.planned(k));
        }
        Check.illegalArgument(run + "no more acts", () -> lists.planned(best.length));
    }

    private void compareFrom(String run) {
        for (int act = 0; act < ACTS; act++) {
            int first = act;
            Check.due(run + "from " + act, leastFrom(act), () -> lists.from(first));
        }
    }

    private int leastFrom(int act) {
        if (shown[act] == 0) {
            return CaseLists.NONE;
        }
        best = null;
        order[0] = act;
        tryOrders(shownByAny(), 1, 1 << act, shown[act], seconds[act]);
        return bestSum;
    }

    private void tryOrders(int needed, int length, int used, int seen, int sum) {
        if ((needed & ~seen) == 0 && isBetter(length, sum)) {
            best = Arrays.copyOf(order, length);
            bestSum = sum;
        }
        for (int act = 0; act < ACTS; act++) {
            if ((used & 1 << act) == 0) {
                int way = length == 0 ? 0 : ways[places[order[length - 1]]][places[act]];
                order[length] = act;
                tryOrders(needed, length + 1, used | 1 << act, seen | shown[act], sum + way + seconds[act]);
            }
        }
    }

    private boolean isBetter(int length, int sum) {
        if (best == null || sum != bestSum) {
            return best == null || sum < bestSum;
        }
        if (length != best.length) {
            return length < best.length;
        }
        return Arrays.compare(Arrays.copyOf(order, length), best) < 0;
    }
}
