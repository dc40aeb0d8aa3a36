import java.math.BigInteger;

/** Promises 12 to 16 and part 2 of the terms, but for CHAIN: each sentence that names a boundary has a test of its own. */
public final class EdgesOddsTest {
    private static final int NONE = SampleHouse.NONE;
    private static final int OTHERS = -2;
    private static final int TOO_GREAT = -2;
    private static final int UNKNOWN = -3;
    private static final int SLUSH = 0;
    private static final int FLAKE = 1;
    private static final int BALL = 2;
    private static final int FAR = Integer.MAX_VALUE;
    private static final int LOW = Integer.MIN_VALUE;
    private static Check check = new Check();

    private static SampleHouse made(int nodes, int sample, int alpha, int beta, int protocol, int... colours) {
        SampleHouse x = new SampleHouse();
        check.due("group", true, x.group(nodes, sample, alpha, beta));
        check.due("protocol", FLAKE, x.protocol(protocol));
        for (int i = 0; i < colours.length; i++) {
            check.due("colour", true, x.colour(i, colours[i]));
        }
        return x;
    }

    private static void unlink(SampleHouse x, int... pairs) {
        for (int i = 0; i + 1 < pairs.length; i += 2) {
            check.due("link", true, x.link(pairs[i], pairs[i + 1], false));
        }
    }

    private static void unlinkFirst(SampleHouse x, int honest) {
        for (int i = 0; i < honest; i++) {
            for (int j = i + 1; j < honest; j++) {
                unlink(x, i, j);
            }
        }
    }

    /** From node on: one says 0, one says 1, one says nothing. */
    private static void liars(SampleHouse x, int node) {
        x.kind(node, 1);
        x.kind(node + 1, 2);
        x.kind(node + 2, 4);
    }

    private static void exact(SampleHouse x, int t, long ways, long splits, long agreed) {
        check.due("exact(" + t + ", 0)", ways, x.exact(t, 0));
        check.due("exact(" + t + ", 1)", splits, x.exact(t, 1));
        check.due("exact(" + t + ", 2)", agreed, x.exact(t, 2));
    }

    private static void colours(SampleHouse x, int t, long... want) {
        for (int k = 0; k < want.length; k++) {
            check.due("colours(" + t + ", " + k + ")", want[k], x.colours(t, k));
        }
    }

    /** Neither WAYS nor what follows from them is told. */
    private static void tooGreat(SampleHouse x, int t) {
        exact(x, t, TOO_GREAT, TOO_GREAT, TOO_GREAT);
        check.due("colours(" + t + ", 0)", TOO_GREAT, x.colours(t, 0));
        check.due("odds(" + t + ")", TOO_GREAT, x.odds(t));
    }

    private static void unknown(SampleHouse x, int t, long ways) {
        exact(x, t, ways, UNKNOWN, UNKNOWN);
        check.due("colours(" + t + ", 0)", UNKNOWN, x.colours(t, 0));
        check.due("odds(" + t + ")", UNKNOWN, x.odds(t));
    }

    private static void way(SampleHouse x, int... nodeAndSample) {
        check.due("soonest()", nodeAndSample.length / 2, x.soonest());
        for (int i = 0; i < nodeAndSample.length; i++) {
            check.due("way(" + i / 2 + ", " + i % 2 + ")", nodeAndSample[i], x.way(i / 2, i % 2));
        }
        for (int what = 0; what < 2; what++) {
            check.due("way behind its end", OTHERS, x.way(nodeAndSample.length / 2, what));
        }
    }

    private static void soonestUnknown(SampleHouse x) {
        check.still("soonest()", x, UNKNOWN, () -> x.soonest());
        check.still("way(0, 0)", x, UNKNOWN, () -> x.way(0, 0));
        check.still("way(0, 1)", x, UNKNOWN, () -> x.way(0, 1));
        check.still("way(FAR, 1)", x, UNKNOWN, () -> x.way(FAR, 1));
    }

    private static long power(long base, int t) {
        return BigInteger.valueOf(base).pow(t).longValueExact();
    }

    private static void tBounds() {
        check.term("EXACT: t QUERIES (1 to 12) one behind another");
        SampleHouse x = made(4, 1, 1, 2, FLAKE, 1, 0, 1, 0);
        for (int t : new int[] {LOW, -1, 0, 13, 24, FAR}) {
            for (int what = 0; what < 3; what++) {
                int asked = what;
                check.still("exact(" + t + ", " + what + ")", x, NONE, () -> x.exact(t, asked));
            }
            check.still("colours(" + t + ", 0)", x, NONE, () -> x.colours(t, 0));
            check.still("odds(" + t + ")", x, NONE, () -> x.odds(t));
        }
        SampleHouse y = made(2, 1, 1, 1, FLAKE, 1, 1);
        for (int t = 1; t <= 12; t++) {
            exact(y, t, 1L << t, 0, (1L << t) - 2);
            colours(y, t, 0, 0, 1L << t);
            check.due("odds(" + t + ")", 0, y.odds(t));
        }
    }

    /** Once each kind of query that can't be: the other one of two decides by itself. */
    private static void doNothing() {
        check.term("one that can't be (a liar, DECIDED, without COLOUR) does nothing.");
        for (int kind = 1; kind <= 4; kind++) {
            SampleHouse liar = made(2, 1, 1, 1, FLAKE, 1, 1);
            liar.kind(1, kind);
            exact(liar, 1, 2, 0, kind == 4 ? 0 : 1);
            exact(liar, 2, 4, 0, kind == 4 ? 0 : 3);
            exact(liar, 12, 4096, 0, kind == 4 ? 0 : 4095);
        }
        SampleHouse decided = made(2, 1, 1, 1, FLAKE, 1, 1);
        check.due("query", 2, decided.query(0, 2));
        exact(decided, 1, 2, 0, 1);
        exact(decided, 12, 4096, 0, 4095);
        SampleHouse blank = made(2, 1, 1, 1, FLAKE, 1);
        exact(blank, 1, 2, 0, 0);
        colours(blank, 1, 0, 1, 1);
        exact(blank, 2, 4, 0, 1);
        colours(blank, 2, 0, 1, 3);
        SampleHouse blankFirst = made(2, 1, 1, 1, FLAKE, NONE, 1);
        colours(blankFirst, 1, 0, 1, 1);
        exact(blankFirst, 2, 4, 0, 1);
        SampleHouse nobody = made(4, 1, 1, 2, FLAKE);
        exact(nobody, 12, 8916100448256L, 0, 0);
        colours(nobody, 12, 8916100448256L, 0, 0, 0, 0);
    }

    private static SampleHouse split() {
        SampleHouse x = made(3, 1, 1, 1, FLAKE, 0, 1, 1);
        check.due("query(1, 1)", 2, x.query(1, 1));
        check.due("query(0, 4)", 2, x.query(0, 4));
        return x;
    }

    /** Of three the last lies, and is asked all the same: two of the six ways of a query are its own. */
    private static void allWays() {
        check.term("each is of any of all NODES and with any of all its SAMPLES, equally likely;");
        SampleHouse x = made(3, 1, 1, 1, FLAKE, 1, 1);
        x.kind(2, 1);
        exact(x, 1, 6, 0, 0);
        colours(x, 1, 0, 2, 4, 0);
        // Both ask, in either order: unlike, if the first asks the second, and the second the liar.
        exact(x, 2, 36, 2, 6);
        x.kind(2, 3);
        colours(x, 1, 0, 2, 4, 0);
    }

    private static void splitOfTwo() {
        check.term("Of these SPLITS: those behind which two HONEST ones are DECIDED unlike;");
        SampleHouse x = split();
        exact(x, 1, 6, 6, 0);
        exact(x, 12, power(6, 12), power(6, 12), 0);
        x.kind(0, 1);
        exact(x, 3, 216, 0, 216 - 64);
        x.back();
        x.colour(0, 1);
        exact(x, 1, 6, 2, 0);
    }

    private static void oneAtLeast() {
        check.term("AGREED: all HONEST ones (one at least) are DECIDED alike.");
        SampleHouse x = made(2, 1, 1, 1, FLAKE, 1, 1);
        x.query(0, 2);
        x.query(1, 1);
        exact(x, 1, 2, 0, 2);
        x.kind(0, 1);
        exact(x, 1, 2, 0, 2);
        x.kind(1, 1);
        exact(x, 1, 2, 0, 0);
        exact(split(), 2, 36, 36, 0);
    }

    private static void waysTooGreat() {
        check.term("TOO GREAT: WAYS is no long;");
        SampleHouse x = made(7, 2, 2, 1, FLAKE);
        exact(x, 9, power(105, 9), 0, 0);
        tooGreat(x, 10);
        // Of these the ninth, the eleventh come round to a long above 0, below 0.
        SampleHouse y = made(7, 3, 2, 1, FLAKE);
        exact(y, 8, power(140, 8), 0, 0);
        tooGreat(y, 9);
        tooGreat(y, 12);
        SampleHouse z = made(8, 1, 1, 1, FLAKE);
        exact(z, 10, power(56, 10), 0, 0);
        tooGreat(z, 11);
        check.due("it is known again", 0, z.exact(10, 1));
    }

    private static void waysOfAllGroups() {
        check.term("WAYS: how many there are in all.");
        for (int nodes = 2; nodes <= 8; nodes++) {
            for (int sample = 1; sample < nodes; sample++) {
                SampleHouse x = made(nodes, sample, sample, 1, SLUSH);
                long samples = 1;
                for (int i = 0; i < sample; i++) {
                    samples = samples * (nodes - 1 - i) / (i + 1);
                }
                for (int t = 1; t <= 12; t++) {
                    BigInteger ways = BigInteger.valueOf(nodes * samples).pow(t);
                    if (ways.bitLength() > 63) {
                        tooGreat(x, t);
                    } else {
                        exact(x, t, ways.longValue(), 0, 0);
                        check.due("colours(" + t + ", 0)", ways.longValue(), x.colours(t, 0));
                        check.due("odds(" + t + ")", 0, x.odds(t));
                    }
                }
            }
        }
    }

    /** Three that hear three liars alone have just 2000 states behind ten queries. */
    private static void just2000() {
        check.term("UNKNOWN (else): behind some of these QUERIES there are more than 2000 unlike states of the group.");
        SampleHouse x = made(6, 1, 1, 8, FLAKE, 0, 0, 0);
        liars(x, 3);
        unlinkFirst(x, 3);
        exact(x, 10, power(30, 10), 0, 0);
        long sum = 0;
        for (int k = 0; k <= 6; k++) {
            sum += x.colours(10, k);
        }
        check.due("all colours(10, k)", power(30, 10), sum);
        check.due("odds(10)", 0, x.odds(10));
        unknown(x, 11, power(30, 11));
        unknown(x, 12, power(30, 12));
        check.due("10 is known ever again", 0, x.exact(10, 1));
        unlink(x, 0, 4, 0, 5);
        check.due("fewer states, known anew", 0, x.exact(12, 1));
    }

    /** Four that hear liars have 2001 states behind seven queries. */
    private static void just2001() {
        check.term("UNKNOWN (else): behind some of these QUERIES there are more than 2000 unlike states of the group.");
        SampleHouse x = made(7, 1, 1, 4, FLAKE, 0, 0, 0, 0);
        liars(x, 4);
        unlinkFirst(x, 4);
        unlink(x, 0, 4);
        unknown(x, 7, power(42, 7));
        exact(x, 6, power(42, 6), 0, 0);
        unknown(x, 8, power(42, 8));
    }

    /** Two take their colours from the others: behind nine queries there are just too many states. */
    private static void tooManyByBlanks() {
        check.term("UNKNOWN (else): behind some of these QUERIES there are more than 2000 unlike states of the group.");
        SampleHouse x = made(4, 2, 2, 5, FLAKE, NONE, NONE, 0, 1);
        exact(x, 8, power(12, 8), 0, 0);
        unknown(x, 9, power(12, 9));
    }

    /** Each of eight can ask and give its colour: soon there are too many states, and soon too many ways. */
    private static void tooGreatAheadOfUnknown() {
        check.term("UNKNOWN (else)");
        SampleHouse x = made(8, 3, 2, 15, FLAKE, 1);
        exact(x, 1, 280, 0, 0);
        unknown(x, 3, power(280, 3));
        unknown(x, 7, power(280, 7));
        tooGreat(x, 8);
        unknown(x, 7, power(280, 7));
        exact(x, 2, 280 * 280, 0, 0);
    }

    private static void soonestNow() {
        check.term("SOONEST: the fewest QUERIES, of whichever HONEST NODES, with whichever SAMPLES, behind which two HONEST ones are DECIDED unlike (0: they are now).");
        SampleHouse x = split();
        way(x);
        x.kind(2, 3);
        way(x);
        x.kind(0, 1);
        check.due("of two HONEST ones", NONE, x.soonest());
        x.kind(0, 0);
        way(x);
        x.colour(0, 0);
        way(x, 0, 4);
    }

    /** Two decide for 1 and for 0 by two queries in many ways: the first of the first NODE, by the least SAMPLE. */
    private static void firstWay() {
        check.term("NODE by NODE, SAMPLE by SAMPLE (as bits, the less ahead; QUERIES that can be alone) each that comes and was not found, till one is such: the WAY is the one by which that was found.");
        SampleHouse x = made(4, 1, 1, 1, FLAKE, 1, 1, 0, 0);
        way(x, 0, 2, 1, 4);
        // If 1 asks 2 ahead of all, nobody has 1 any more: 2 asks 1 at first.
        x.kind(0, 4);
        way(x, 2, 2, 1, 8);
        x.back();
        x.colour(0, NONE);
        way(x, 1, 1, 0, 4);
        // 0 gives its colour to the one it asks: then that one is of 1, and 3 alone of 0.
        SampleHouse y = made(4, 1, 1, 1, FLAKE, 1, NONE, NONE, 0);
        way(y, 0, 2, 1, 8);
        check.promise(16, "Of the i-th QUERY on its WAY (from 0)");
        check.due("the first is made", 2, y.query(y.way(0, 0), y.way(0, 1)));
        way(y, 1, 8);
        check.due("the last is made", 2, y.query(y.way(0, 0), y.way(0, 1)));
        way(y);
    }

    /** One that is told always the other colour comes by each query to a state of its own, 2000 times. */
    private static void a2001stState() {
        check.term("UNKNOWN: a 2001st would be found ahead of it.");
        SampleHouse x = made(2, 1, 1, 3, BALL, 0);
        x.kind(1, 3);
        soonestUnknown(x);
        check.due("one less", 1, x.query(0, 2));
        check.due("all 2000 are found", NONE, x.soonest());
        check.due("way(0, 0)", OTHERS, x.way(0, 0));
        x.back();
        soonestUnknown(x);
        x.protocol(FLAKE);
        check.due("by another protocol", NONE, x.soonest());
    }

    /** Each hears one that says 1 and one that says nothing: 4 by 4 by 5 by 5 by 5 states, none of them a split. */
    private static void all2000() {
        check.promise(15, "SOONEST; NONE: never; -3: UNKNOWN.");
        SampleHouse x = made(7, 1, 1, 3, FLAKE, 1, 1, 0, 0, 0);
        x.kind(5, 2);
        x.kind(6, 4);
        unlinkFirst(x, 5);
        check.still("soonest()", x, NONE, () -> x.soonest());
        check.still("way(0, 0)", x, OTHERS, () -> x.way(0, 0));
        // Twelve by thirteen by thirteen are 2028.
        SampleHouse y = made(5, 1, 1, 11, FLAKE, 1, 0, 0);
        y.kind(3, 2);
        y.kind(4, 4);
        unlinkFirst(y, 3);
        soonestUnknown(y);
        y.colour(2, NONE);
        y.colour(1, NONE);
        check.due("known again", NONE, y.soonest());
    }

    /** Found by trying many groups: the split is the 2000th state, the 2001st (none is ahead of it), the 2002nd. */
    private static void splitAtTheEdge() {
        check.term("UNKNOWN: a 2001st would be found ahead of it.");
        SampleHouse x = made(4, 1, 1, 6, FLAKE, 0, 1, 1, 0);
        x.kind(1, 4);
        check.due("the 2000th", 12, x.soonest());
        follow(x, 12);
        SampleHouse y = made(4, 1, 1, 3, BALL, 1, 0, 1, 0);
        y.kind(3, 3);
        unlink(y, 0, 2, 0, 3, 1, 2);
        check.due("the 2001st", 8, y.soonest());
        follow(y, 8);
        SampleHouse z = made(4, 1, 1, 6, FLAKE, 1, 0, 1, NONE);
        z.kind(2, 3);
        unlink(z, 1, 2, 2, 3);
        soonestUnknown(z);
        SampleHouse w = made(4, 1, 1, 3, BALL, 1, 0, 1, 0);
        unlink(w, 0, 1, 1, 3, 2, 3);
        soonestUnknown(w);
    }

    private static void follow(SampleHouse x, int steps) {
        for (int left = steps; left > 0; left--) {
            check.due("not yet", 0, x.count(14));
            check.due("one is left the less", left, x.soonest());
            int node = x.way(0, 0);
            check.due("its query can be", true, x.query(node, x.way(0, 1)) >= 0);
        }
        check.due("there", 1, x.count(14));
    }

    /** Nothing that was told of the old group is told of the new one, which no other call has touched. */
    private static void groupForgets() {
        check.promise(2, "all else (but PROTOCOL) is as at first");
        SampleHouse x = split();
        exact(x, 1, 6, 6, 0);
        way(x);
        x.group(3, 1, 1, 1);
        exact(x, 1, 6, 0, 0);
        colours(x, 1, 6, 0, 0, 0);
        check.due("odds(1)", 0, x.odds(1));
        check.due("soonest()", NONE, x.soonest());
        SampleHouse y = split();
        check.due("soonest()", 0, y.soonest());
        y.group(3, 1, 1, 1);
        check.due("way(0, 0), asked first", OTHERS, y.way(0, 0));
        y.colour(0, 0);
        y.colour(1, 1);
        y.colour(2, 1);
        check.due("way(0, 0), asked first", 1, y.way(0, 0));
        y.query(1, 1);
        check.due("way(0, 1), asked first", 4, y.way(0, 1));
    }

    private static void exactTells() {
        check.promise(12, "EXACT, what 0: WAYS, 1: SPLITS, 2: AGREED; NONE: others; -2: TOO GREAT; -3: UNKNOWN (of 1, 2).");
        SampleHouse x = made(8, 3, 2, 15, FLAKE, 1);
        for (int what : new int[] {LOW, -2, -1, 3, FAR}) {
            check.still("exact(1, " + what + ")", x, NONE, () -> x.exact(1, what));
            check.still("others ahead of UNKNOWN", x, NONE, () -> x.exact(3, what));
            check.still("others ahead of TOO GREAT", x, NONE, () -> x.exact(12, what));
        }
        check.still("TOO GREAT", x, TOO_GREAT, () -> x.exact(12, 2));
        check.still("UNKNOWN", x, UNKNOWN, () -> x.exact(3, 2));
    }

    private static void coloursTell() {
        check.promise(13, "WAYS behind which just k HONEST NODES have COLOUR 1; NONE: others (k 0 to NODES); -2, -3 likewise.");
        for (int n = 2; n <= 8; n++) {
            SampleHouse x = made(n, n - 1, n - 1, 15, FLAKE);
            for (int k = 0; k <= n; k++) {
                check.due("colours(1, " + k + ")", k == 0 ? n : 0, x.colours(1, k));
            }
            for (int k : new int[] {LOW, -1, n + 1, 9, FAR}) {
                check.still("colours(1, " + k + ")", x, NONE, () -> x.colours(1, k));
            }
            for (int i = 0; i < n; i++) {
                x.colour(i, 1);
            }
            check.due("all of 1", n, x.colours(1, n));
            x.kind(n - 1, 2);
            check.due("a liar of 1 is none", 0, x.colours(1, n));
            check.due("the others are all of 1", n, x.colours(1, n - 1));
        }
        SampleHouse y = made(8, 3, 2, 15, FLAKE, 1);
        check.due("others ahead of TOO GREAT", NONE, y.colours(12, 9));
        check.due("others ahead of UNKNOWN", NONE, y.colours(3, -1));
    }

    private static void oddsTell() {
        check.promise(14, "The bits (as Float.floatToIntBits tells) of SPLITS divided by WAYS, both as single-precision floats; NONE: others; -2, -3 likewise.");
        check.due("no split", 0, made(4, 2, 2, 3, FLAKE).odds(12));
        check.due("always", Float.floatToIntBits(1f), split().odds(12));
        check.due("always", Float.floatToIntBits(1f), split().odds(1));
        SampleHouse x = made(3, 1, 1, 1, FLAKE, 0, 1, 1);
        check.due("4 of 36", Float.floatToIntBits(4f / 36f), x.odds(2));
        x.query(1, 1);
        check.due("1 of 6", Float.floatToIntBits(1f / 6f), x.odds(1));
        // Many ways: both are rounded to floats ahead of the division.
        SampleHouse y = made(6, 1, 1, 1, FLAKE, 0, 0, 0);
        liars(y, 3);
        long splits = y.exact(12, 1);
        check.due("more than a float holds", true, (long) (float) splits != splits);
        check.due("odds(12)", Float.floatToIntBits((float) splits / (float) y.exact(12, 0)), y.odds(12));
        SampleHouse z = made(8, 3, 2, 15, FLAKE, 1);
        check.still("odds(3)", z, UNKNOWN, () -> z.odds(3));
        check.still("odds(8)", z, TOO_GREAT, () -> z.odds(8));
        check.still("odds(13)", z, NONE, () -> z.odds(13));
    }

    /** By one decision more each time what is as good as never has the least odds, and these come to 1 for good. */
    private static void oddsOfAllSizes() {
        check.promise(14, "both as single-precision floats");
        for (int beta = 1; beta <= 6; beta++) {
            SampleHouse x = made(5, 1, 1, beta, FLAKE, 1, 0);
            x.kind(2, 2);
            x.kind(3, 1);
            x.kind(4, 4);
            unlink(x, 0, 1, 0, 3, 1, 2);
            for (int t = 1; t <= 12; t++) {
                float due = (float) x.exact(t, 1) / (float) x.exact(t, 0);
                check.due("odds(" + t + ") of BETA " + beta, Float.floatToIntBits(due), x.odds(t));
                check.due("some, from twice BETA on", t >= 2 * beta, due > 0f);
            }
        }
    }

    private static void wayTells() {
        check.promise(16, "1: its SAMPLE, as bits; -2: others, none such; -3: UNKNOWN.");
        SampleHouse x = made(4, 1, 1, 1, FLAKE, 1, 1, 0, 0);
        for (int i : new int[] {LOW, -1, 2, 3, 2000, FAR}) {
            check.still("way(" + i + ", 0)", x, OTHERS, () -> x.way(i, 0));
            check.still("way(" + i + ", 1)", x, OTHERS, () -> x.way(i, 1));
        }
        for (int what : new int[] {LOW, -1, 2, FAR}) {
            check.still("way(0, " + what + ")", x, OTHERS, () -> x.way(0, what));
        }
        x.protocol(SLUSH);
        check.due("never", NONE, x.soonest());
        check.still("none such", x, OTHERS, () -> x.way(0, 0));
        SampleHouse y = made(2, 1, 1, 3, BALL, 0);
        y.kind(1, 3);
        check.still("others ahead of UNKNOWN", y, OTHERS, () -> y.way(-1, 0));
        check.still("others ahead of UNKNOWN", y, OTHERS, () -> y.way(0, 2));
    }

    public static void main(String[] args) {
        tBounds();
        doNothing();
        allWays();
        splitOfTwo();
        oneAtLeast();
        waysTooGreat();
        waysOfAllGroups();
        just2000();
        just2001();
        tooManyByBlanks();
        tooGreatAheadOfUnknown();
        soonestNow();
        firstWay();
        a2001stState();
        all2000();
        splitAtTheEdge();
        groupForgets();
        exactTells();
        coloursTell();
        oddsTell();
        oddsOfAllSizes();
        wayTells();
        check.promised(12, 16);
        check.end("EdgesOddsTest");
    }
}
