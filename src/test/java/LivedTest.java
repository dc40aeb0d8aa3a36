import java.util.ArrayList;
import java.util.List;
import java.util.Random;

/**
 * Promises 12 to 16 without a model: each row of queries is made for itself, on a new object that was brought to the same
 * state, and what is seen behind it is counted.
 */
public final class LivedTest {
    private static final int GROUPS = 90;
    private static final int MOST_ROWS = 3000;
    private static Check check = new Check();

    private final long seed;
    private final int nodes;
    private final int sample;
    private final List<int[]> single = new ArrayList<>();
    private long splits;
    private long agreed;
    private long[] ones;

    private LivedTest(long seed) {
        this.seed = seed;
        SampleHouse x = start();
        nodes = x.count(0);
        sample = x.count(1);
        for (int node = 0; node < nodes; node++) {
            for (int bits = 0; bits < 1 << nodes; bits++) {
                if (Integer.bitCount(bits) == sample && (bits >> node & 1) == 0) {
                    single.add(new int[] {node, bits});
                }
            }
        }
    }

    /** The state that the seed tells: always the same one. */
    private SampleHouse start() {
        Random random = new Random(seed);
        SampleHouse x = new SampleHouse();
        int n = 2 + random.nextInt(4);
        int k = 1 + random.nextInt(n - 1);
        x.group(n, k, k / 2 + 1 + random.nextInt(k - k / 2), 1 + random.nextInt(2));
        x.protocol(random.nextInt(3));
        for (int i = 0; i < n; i++) {
            x.colour(i, random.nextInt(5) == 0 ? -1 : random.nextInt(2));
            x.kind(i, random.nextInt(5) == 0 ? 1 + random.nextInt(4) : 0);
        }
        x.link(random.nextInt(n), random.nextInt(n), false);
        if (random.nextInt(3) == 0) {
            x.run(1 + random.nextInt(3), random.nextInt());
        }
        return x;
    }

    private int[][] row(int number, int t) {
        int[][] row = new int[t][];
        int rest = number;
        for (int i = t - 1; i >= 0; i--) {
            row[i] = single.get(rest % single.size());
            rest /= single.size();
        }
        return row;
    }

    private long rows(int t) {
        long all = 1;
        for (int i = 0; i < t; i++) {
            all *= single.size();
        }
        return all;
    }

    private void look(SampleHouse x) {
        int honest = x.count(6);
        int decided = x.count(7) & honest;
        boolean split = x.count(14) == 1;
        splits += split ? 1 : 0;
        agreed += honest != 0 && decided == honest && !split ? 1 : 0;
        ones[Integer.bitCount(x.count(8))]++;
    }

    private void exact(int t) {
        splits = 0;
        agreed = 0;
        ones = new long[nodes + 1];
        for (int number = 0; number < rows(t); number++) {
            SampleHouse x = start();
            for (int[] one : row(number, t)) {
                x.query(one[0], one[1]);
            }
            look(x);
        }
        SampleHouse x = start();
        check.due(told("exact", t, 0), rows(t), x.exact(t, 0));
        check.due(told("exact", t, 1), splits, x.exact(t, 1));
        check.due(told("exact", t, 2), agreed, x.exact(t, 2));
        for (int k = 0; k <= nodes; k++) {
            check.due(told("colours", t, k), ones[k], x.colours(t, k));
        }
        check.due(told("odds", t, 0), Float.floatToIntBits((float) splits / (float) rows(t)), x.odds(t));
    }

    private String told(String call, int a, int b) {
        return "seed " + seed + ": " + call + " of " + a + ", " + b;
    }

    /** Whether all the queries can be, and there is a split behind the last of them. */
    private boolean leadsToSplit(int[][] row) {
        SampleHouse x = start();
        for (int[] one : row) {
            if (x.query(one[0], one[1]) == SampleHouse.NONE) {
                return false;
            }
        }
        return x.count(14) == 1;
    }

    /** The WAY is the first of all the shortest rows: by the first query's node, then its sample, then by the next query. */
    private void soonest() {
        SampleHouse x = start();
        int fewest = x.soonest();
        int t = 0;
        for (; rows(t) <= MOST_ROWS && (fewest < 0 || t <= fewest); t++) {
            for (int number = 0; number < rows(t); number++) {
                if (leadsToSplit(row(number, t))) {
                    check.due(told("soonest", 0, 0), t, fewest);
                    theWay(x, row(number, t));
                    return;
                }
            }
        }
        check.due(told("soonest: no row leads to a split so soon", t, fewest), true, fewest < 0 || fewest >= t);
    }

    private void theWay(SampleHouse x, int[][] row) {
        for (int i = 0; i < row.length; i++) {
            check.due(told("way", i, 0), row[i][0], x.way(i, 0));
            check.due(told("way", i, 1), row[i][1], x.way(i, 1));
        }
        check.due(told("way", row.length, 0), -2, x.way(row.length, 0));
    }

    public static void main(String[] args) {
        for (long seed = 1; seed <= GROUPS && !check.isWrong(); seed++) {
            LivedTest group = new LivedTest(seed);
            for (int t = 1; t <= 5 && group.rows(t) <= MOST_ROWS; t++) {
                group.exact(t);
            }
            group.soonest();
        }
        check.end("LivedTest");
    }
}
