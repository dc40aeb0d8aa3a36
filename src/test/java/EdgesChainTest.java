import java.math.BigInteger;

/** Promise 17 and CHAIN: each sentence that names a boundary has a test of its own. */
public final class EdgesChainTest {
    private static final int NONE = SampleHouse.NONE;
    private static final int TOO_GREAT = -2;
    private static final int BALL = 2;
    private static final int FAR = Integer.MAX_VALUE;
    private static final int LOW = Integer.MIN_VALUE;
    private static Check check = new Check();

    /** A fraction as the document keeps it, that knows whether a number on the way to it was no long. */
    private static final class Part {
        static final Part ZERO = whole(0);
        final BigInteger above;
        final BigInteger below;
        final boolean tooGreat;

        private Part(BigInteger above, BigInteger below, boolean tooGreat) {
            BigInteger common = above.gcd(below);
            this.above = above.divide(common);
            this.below = below.divide(common);
            this.tooGreat = tooGreat;
        }

        static Part whole(long n) {
            return new Part(BigInteger.valueOf(n), BigInteger.ONE, false);
        }

        private static boolean isNoLong(BigInteger... numbers) {
            boolean any = false;
            for (BigInteger n : numbers) {
                any |= n.bitLength() > 63;
            }
            return any;
        }

        Part plus(Part f, int sign) {
            BigInteger first = above.multiply(f.below);
            BigInteger second = f.above.multiply(below);
            BigInteger all = sign > 0 ? first.add(second) : first.subtract(second);
            BigInteger under = below.multiply(f.below);
            return new Part(all, under, tooGreat || f.tooGreat || isNoLong(first, second, all, under));
        }

        Part times(Part f) {
            BigInteger over = above.multiply(f.above);
            BigInteger under = below.multiply(f.below);
            return new Part(over, under, tooGreat || f.tooGreat || isNoLong(over, under));
        }

        Part by(Part f) {
            BigInteger over = above.multiply(f.below);
            BigInteger under = below.multiply(f.above);
            return new Part(over, under, tooGreat || f.tooGreat || isNoLong(over, under));
        }
    }

    private static void chain(SampleHouse x, int j, long... want) {
        for (int what = 0; what < want.length; what++) {
            check.due("chain(" + j + ", " + what + ")", want[what], x.chain(j, what));
        }
    }

    private static void chainBounds() {
        check.term("CHAIN: NODES all HONEST, all LINKED, j (0 to NODES) of COLOUR 1, others 0, SLUSH by SAMPLE, ALPHA as they are");
        SampleHouse x = new SampleHouse();
        for (int n = 2; n <= 8; n++) {
            x.group(n, 1, 1, 3);
            for (int what = 0; what < 4; what++) {
                for (int j : new int[] {LOW, -1, n + 1, FAR}) {
                    int asked = what;
                    check.still("chain(" + j + ", " + what + ")", x, NONE, () -> x.chain(j, asked));
                }
            }
            chain(x, 0, 0, 1, 0, 1);
            chain(x, n, 1, 1, 0, 1);
            for (int j = 1; j < n; j++) {
                check.due("as likely as there are such", (long) j * x.chain(j, 1), n * x.chain(j, 0));
            }
        }
        x.group(3, 1, 1, 3);
        chain(x, 1, 1, 3, 3, 1);
        x.colour(0, 1);
        x.kind(1, 4);
        x.link(0, 2, false);
        x.protocol(BALL);
        chain(x, 1, 1, 3, 3, 1);
        x.group(2, 1, 1, 3);
        chain(x, 1, 1, 2, 1, 1);
    }

    /** All of three others must have it: 2 of 4 stay for ever, 1 and 3 are left by one of sixteen queries in all. */
    private static void chainStays() {
        check.term("the ODDS that all come to have 1 (0, if it stays between for ever), and TIME: how many QUERIES it takes, on an average, till all have one COLOUR (none, if that may never be).");
        SampleHouse x = new SampleHouse();
        x.group(4, 3, 3, 1);
        chain(x, 0, 0, 1, 0, 1);
        chain(x, 1, 0, 1, 4, 1);
        chain(x, 2, 0, 1, NONE, NONE);
        chain(x, 3, 1, 1, 4, 1);
        chain(x, 4, 1, 1, 0, 1);
        x.group(8, 7, 7, 1);
        for (int j = 2; j <= 6; j++) {
            chain(x, j, 0, 1, NONE, NONE);
        }
        chain(x, 1, 0, 1, 8, 1);
        chain(x, 7, 1, 1, 8, 1);
        x.group(4, 3, 2, 1);
        chain(x, 1, 0, 1, 4, 1);
        chain(x, 2, 1, 2, 5, 1);
        chain(x, 3, 1, 1, 4, 1);
        x.group(8, 4, 4, 1);
        for (int j = 0; j <= 8; j++) {
            check.due("4 of 8 is not stuck: " + j, true, x.chain(j, 2) >= 0);
        }
        x.group(8, 5, 5, 1);
        for (int j = 0; j <= 8; j++) {
            check.due("4 of 8 is stuck alone: " + j, j != 4, x.chain(j, 3) >= 0);
        }
    }

    private static void chainTells() {
        check.promise(17, "CHAIN, what 0, 1: ODDS, above, below, 2, 3: TIME, above, below; NONE: others, no TIME; -2: TOO GREAT.");
        SampleHouse x = new SampleHouse();
        chain(x, 2, 1, 2, 7, 1);
        for (int what : new int[] {LOW, -1, 4, FAR}) {
            check.still("chain(2, " + what + ")", x, NONE, () -> x.chain(2, what));
            check.still("chain(0, " + what + ")", x, NONE, () -> x.chain(0, what));
        }
        x.group(4, 3, 3, 1);
        chain(x, 2, 0, 1, NONE, NONE);
        check.still("a refused group", x, 0, () -> x.group(4, 4, 4, 4) ? 1 : 0);
        chain(x, 2, 0, 1, NONE, NONE);
        x.group(4, 2, 2, 1);
        chain(x, 2, 1, 2, 7, 1);
    }

    private static long choose(int n, int k) {
        long ways = k < 0 || k > n ? 0 : 1;
        for (int i = 0; i < k && ways > 0; i++) {
            ways = ways * (n - i) / (i + 1);
        }
        return ways;
    }

    /** Of how many samples of n - 1, of which such ones have the colour, it is alpha at least. */
    private static long carried(int n, int k, int alpha, int such) {
        long all = 0;
        for (int a = alpha; a <= k; a++) {
            all += choose(such, a) * choose(n - 1 - such, k - a);
        }
        return all;
    }

    /** What the document tells of ODDS (cost 0, last 1) and of TIME (last 0), step by step. */
    private static Part[] asTold(int n, int k, int alpha, long cost, long last) {
        Part[] a = new Part[n];
        Part[] b = new Part[n];
        a[0] = Part.ZERO;
        b[0] = Part.ZERO;
        for (int i = 1; i < n; i++) {
            Part up = Part.whole((n - i) * carried(n, k, alpha, i));
            Part down = Part.whole(i * carried(n, k, alpha, n - i));
            Part m = up.plus(down, 1).plus(down.times(a[i - 1]), -1);
            boolean stuck = m.above.signum() == 0;
            a[i] = stuck ? Part.ZERO : up.by(m);
            b[i] = stuck ? Part.ZERO : Part.whole(cost).plus(down.times(b[i - 1]), 1).by(m);
        }
        Part[] told = new Part[n + 1];
        told[n] = Part.whole(last);
        for (int i = n - 1; i >= 0; i--) {
            told[i] = a[i].times(told[i + 1]).plus(b[i], 1);
        }
        return told;
    }

    /** From j one goes up while UP is above 0, and down while DOWN is. */
    private static boolean mayStay(int n, int k, int alpha, int j) {
        boolean stays = false;
        for (int step = -1; step <= 1; step += 2) {
            int i = j;
            boolean goes = true;
            while (goes && i > 0 && i < n) {
                boolean up = carried(n, k, alpha, i) > 0;
                boolean down = carried(n, k, alpha, n - i) > 0;
                stays |= !up && !down;
                goes = step > 0 ? up : down;
                i += step;
            }
        }
        return stays;
    }

    private static void group(SampleHouse x, int n, int k, int alpha) {
        check.due("group", true, x.group(n, k, alpha, 1));
        Part[] odds = asTold(n, k, alpha, 0, 1);
        Part[] time = asTold(n, k, alpha, n * choose(n - 1, k), 0);
        for (int j = 0; j <= n; j++) {
            String call = "group(" + n + ", " + k + ", " + alpha + ", 1) chain(" + j + ", ";
            boolean none = mayStay(n, k, alpha, j);
            check.due(call + "0)", odds[j].tooGreat ? TOO_GREAT : odds[j].above.longValue(), x.chain(j, 0));
            check.due(call + "1)", odds[j].tooGreat ? TOO_GREAT : odds[j].below.longValue(), x.chain(j, 1));
            check.due(call + "2)", none ? NONE : time[j].tooGreat ? TOO_GREAT : time[j].above.longValue(), x.chain(j, 2));
            check.due(call + "3)", none ? NONE : time[j].tooGreat ? TOO_GREAT : time[j].below.longValue(), x.chain(j, 3));
            check.due(call + "..) is not too great in any of these groups", false, odds[j].tooGreat || time[j].tooGreat);
        }
    }

    private static void allAsTold() {
        check.term("Both in least terms, above and below; TOO GREAT, if a number on the way told next is no long.");
        SampleHouse x = new SampleHouse();
        for (int n = 2; n <= 8; n++) {
            for (int k = 1; k < n; k++) {
                for (int alpha = k / 2 + 1; alpha <= k; alpha++) {
                    group(x, n, k, alpha);
                }
            }
        }
    }

    private static void leastTerms() {
        check.term("A fraction is kept in least terms behind each step (0 as 0 / 1)");
        SampleHouse x = new SampleHouse();
        x.group(6, 1, 1, 1);
        long[][] sixths = {{0, 1}, {1, 6}, {1, 3}, {1, 2}, {2, 3}, {5, 6}, {1, 1}};
        for (int j = 0; j <= 6; j++) {
            chain(x, j, sixths[j]);
        }
        chain(x, 0, 0, 1, 0, 1);
        chain(x, 6, 1, 1, 0, 1);
        x.group(6, 5, 5, 1);
        chain(x, 3, 0, 1);
    }

    /** UP and DOWN of the middle ones are 0: from there on it is as if the chain began anew. */
    private static void bothAre0() {
        check.term("of i from 1 on: UP and DOWN 0: A, B are 0;");
        SampleHouse x = new SampleHouse();
        x.group(6, 4, 4, 1);
        chain(x, 1, 0, 1);
        chain(x, 2, 0, 1);
        chain(x, 3, 0, 1, NONE, NONE);
        chain(x, 4, 1, 1);
        chain(x, 5, 1, 1);
        check.term("TIME of n is 0, of 0 is 0; none for j, if from j, by UP, DOWN above 0, one comes to an i (1 to n - 1) of which both are 0.");
        // DOWN of 1 is all 5 of 30 ways, of 2 two: 30 / 5 and 30 / 2 more.
        chain(x, 0, 0, 1, 0, 1);
        chain(x, 1, 0, 1, 6, 1);
        chain(x, 2, 0, 1, 21, 1);
        chain(x, 4, 1, 1, 21, 1);
        chain(x, 5, 1, 1, 6, 1);
        chain(x, 6, 1, 1, 0, 1);
    }

    public static void main(String[] args) {
        chainBounds();
        chainStays();
        allAsTold();
        leastTerms();
        bothAre0();
        chainTells();
        check.promised(17, 17);
        check.end("EdgesChainTest");
    }
}
