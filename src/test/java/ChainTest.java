import java.math.BigInteger;

/** Promise 17, of every group: the walk's equations, set up sample by sample and solved by elimination. */
public final class ChainTest {
    private static Check check = new Check();

    private static final class Ratio {
        static final Ratio ZERO = new Ratio(BigInteger.ZERO, BigInteger.ONE);
        final BigInteger above;
        final BigInteger below;

        Ratio(BigInteger above, BigInteger below) {
            BigInteger g = above.gcd(below).max(BigInteger.ONE);
            if (below.signum() < 0) {
                g = g.negate();
            }
            this.above = above.divide(g);
            this.below = below.divide(g);
        }

        static Ratio of(long a, long b) {
            return new Ratio(BigInteger.valueOf(a), BigInteger.valueOf(b));
        }

        Ratio minus(Ratio r) {
            return new Ratio(above.multiply(r.below).subtract(r.above.multiply(below)), below.multiply(r.below));
        }

        Ratio times(Ratio r) {
            return new Ratio(above.multiply(r.above), below.multiply(r.below));
        }

        Ratio by(Ratio r) {
            return new Ratio(above.multiply(r.below), below.multiply(r.above));
        }
    }

    /** moves[i][d]: of all ways of one query from i of colour 1, those that lead to i - 1, i, i + 1. */
    private static long[][] moves(int n, int k, int alpha) {
        long[][] moves = new long[n + 1][3];
        for (int i = 0; i <= n; i++) {
            for (int asker = 0; asker < n; asker++) {
                for (int sample = 0; sample < 1 << n; sample++) {
                    if ((sample & 1 << asker) == 0 && Integer.bitCount(sample) == k) {
                        int ones = Integer.bitCount(sample & (1 << i) - 1);
                        boolean has1 = asker < i;
                        int d = !has1 && ones >= alpha ? 2 : has1 && k - ones >= alpha ? 0 : 1;
                        moves[i][d]++;
                    }
                }
            }
        }
        return moves;
    }

    /** Which of 0 to n can be come to from j, and whether one of them can't be left though all are not alike. */
    private static boolean mayStay(long[][] moves, int j) {
        int n = moves.length - 1;
        boolean[] seen = new boolean[n + 1];
        seen[j] = true;
        boolean stays = false;
        for (int round = 0; round <= n; round++) {
            for (int i = 0; i <= n; i++) {
                if (seen[i]) {
                    stays |= i > 0 && i < n && moves[i][0] == 0 && moves[i][2] == 0;
                    if (moves[i][0] > 0) {
                        seen[i - 1] = true;
                    }
                    if (moves[i][2] > 0) {
                        seen[i + 1] = true;
                    }
                }
            }
        }
        return stays;
    }

    /** v of 0 is 0, of n is atAll, of what can't be left 0; else the mean of those it moves to, and cost. */
    private static Ratio[] solve(long[][] moves, long all, long cost, long atAll) {
        int n = moves.length - 1;
        Ratio[][] rows = new Ratio[n + 1][n + 2];
        for (int i = 0; i <= n; i++) {
            java.util.Arrays.fill(rows[i], Ratio.ZERO);
            long leaves = moves[i][0] + moves[i][2];
            rows[i][i] = Ratio.of(1, 1);
            if (i == n) {
                rows[i][n + 1] = Ratio.of(atAll, 1);
            } else if (i > 0 && leaves > 0) {
                rows[i][i - 1] = Ratio.of(-moves[i][0], leaves);
                rows[i][i + 1] = Ratio.of(-moves[i][2], leaves);
                rows[i][n + 1] = Ratio.of(cost * all, leaves);
            }
        }
        for (int c = 0; c <= n; c++) {
            int pivot = c;
            while (rows[pivot][c].above.signum() == 0) {
                pivot++;
            }
            Ratio[] swap = rows[c];
            rows[c] = rows[pivot];
            rows[pivot] = swap;
            for (int r = 0; r <= n; r++) {
                if (r != c && rows[r][c].above.signum() != 0) {
                    Ratio factor = rows[r][c].by(rows[c][c]);
                    for (int e = 0; e <= n + 1; e++) {
                        rows[r][e] = rows[r][e].minus(rows[c][e].times(factor));
                    }
                }
            }
        }
        Ratio[] v = new Ratio[n + 1];
        for (int i = 0; i <= n; i++) {
            v[i] = rows[i][n + 1].by(rows[i][i]);
        }
        return v;
    }

    private static void group(SampleHouse x, int n, int k, int alpha) {
        check.due("group", true, x.group(n, k, alpha, 3));
        long[][] moves = moves(n, k, alpha);
        long all = moves[0][0] + moves[0][1] + moves[0][2];
        Ratio[] odds = solve(moves, all, 0, 1);
        Ratio[] time = solve(moves, all, 1, 0);
        for (int j = 0; j <= n; j++) {
            String call = "group(" + n + ", " + k + ", " + alpha + ", 3) chain(" + j + ", ";
            check.due(call + "0)", odds[j].above.longValueExact(), x.chain(j, 0));
            check.due(call + "1)", odds[j].below.longValueExact(), x.chain(j, 1));
            boolean none = mayStay(moves, j);
            check.due(call + "2)", none ? -1 : time[j].above.longValueExact(), x.chain(j, 2));
            check.due(call + "3)", none ? -1 : time[j].below.longValueExact(), x.chain(j, 3));
        }
        check.due("chain behind the last", -1, x.chain(n + 1, 0));
    }

    public static void main(String[] args) {
        SampleHouse x = new SampleHouse();
        for (int n = 2; n <= 8; n++) {
            for (int k = 1; k < n; k++) {
                for (int alpha = k / 2 + 1; alpha <= k; alpha++) {
                    group(x, n, k, alpha);
                }
            }
        }
        check.end("ChainTest");
    }
}
