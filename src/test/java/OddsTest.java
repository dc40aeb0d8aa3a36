/** Promises 12 to 17: odds, the way to a split, the chain. */
public final class OddsTest {
    private static final int NONE = SampleHouse.NONE;
    private static final int OTHERS = -2;
    private static final int UNKNOWN = -3;
    private static final int FAR = Integer.MAX_VALUE;
    private static final int LOW = Integer.MIN_VALUE;
    private static Check check = new Check();

    private static SampleHouse made(int nodes, int sample, int alpha, int beta, int protocol, int... colours) {
        SampleHouse x = new SampleHouse();
        check.due("group", true, x.group(nodes, sample, alpha, beta));
        x.protocol(protocol);
        for (int i = 0; i < colours.length; i++) {
            check.due("colour", true, x.colour(i, colours[i]));
        }
        return x;
    }

    private static void exact(SampleHouse x, int t, long ways, long splits, long agreed) {
        check.due("exact(" + t + ", 0)", ways, x.exact(t, 0));
        check.due("exact(" + t + ", 1)", splits, x.exact(t, 1));
        check.due("exact(" + t + ", 2)", agreed, x.exact(t, 2));
    }

    private static void colours(SampleHouse x, int t, long... want) {
        for (int k = 0; k < want.length; k++) {
            check.due("colours(" + t + ", " + k + ")", want[k], x.colours(t, k));
        }
    }

    /** Two nodes, unlike: the first query makes both alike, and decides the one that asked. */
    private static void twoNodes() {
        SampleHouse x = made(2, 1, 1, 1, 1, 1, 0);
        exact(x, 1, 2, 0, 0);
        colours(x, 1, 1, 0, 1);
        exact(x, 2, 4, 0, 2);
        colours(x, 2, 2, 0, 2);
        exact(x, 3, 8, 0, 6);
        exact(x, 12, 4096, 0, 4094);
        check.due("count(12)", 0, x.count(12));
        check.due("node(0, 5)", 0, x.node(0, 5));
        x.protocol(0);
        exact(x, 1, 2, 0, 0);
        exact(x, 5, 32, 0, 0);
        colours(x, 5, 16, 0, 16);
    }

    /** Each change is seen by the next call. */
    private static void followsChanges() {
        SampleHouse x = made(3, 1, 1, 1, 1, 0, 1, 1);
        exact(x, 2, 36, 4, 0);
        x.kind(2, 4);
        // 0 and 1 alone: of (2 nodes, 3 with the liar) 2 samples each; asking the liar none wins.
        exact(x, 1, 6, 0, 0);
        exact(x, 2, 36, 0, 2);
        x.back();
        exact(x, 2, 36, 4, 0);
        x.link(0, 1, false);
        x.link(0, 2, false);
        exact(x, 2, 36, 0, 0);
        x.back();
        x.back();
        x.query(1, 1);
        exact(x, 1, 6, 1, 0);
        x.colour(1, NONE);
        exact(x, 1, 6, 0, 0);
        x.group(3, 2, 2, 1);
        exact(x, 1, 3, 0, 0);
        x.colour(0, 1);
        x.colour(1, 1);
        x.colour(2, 1);
        exact(x, 3, 27, 0, 6);
        x.run(1, 7);
        exact(x, 2, 9, 0, 2);
        x.protocol(0);
        exact(x, 2, 9, 0, 0);
    }

    /** A liar's, a decided one's, a colourless one's query does nothing, but counts among the ways. */
    private static void doNothing() {
        SampleHouse x = made(4, 1, 1, 2, 1);
        exact(x, 12, 8916100448256L, 0, 0);
        colours(x, 12, 8916100448256L, 0, 0, 0, 0);
        for (int i = 0; i < 4; i++) {
            x.kind(i, 2);
        }
        exact(x, 2, 144, 0, 0);
        SampleHouse y = made(2, 1, 1, 1, 1, 1, 1);
        y.query(0, 2);
        y.query(1, 1);
        exact(y, 1, 2, 0, 2);
        y.kind(0, 1);
        exact(y, 1, 2, 0, 2);
        y.kind(1, 1);
        exact(y, 1, 2, 0, 0);
    }

    /** 0 asks 1 or 2, and gives its colour to the one it asks; only 2 hears one who says 0. */
    private static void blanks() {
        SampleHouse x = made(4, 1, 1, 1, 1, 1);
        x.kind(3, 1);
        x.link(0, 3, false);
        x.link(1, 2, false);
        x.link(1, 3, false);
        exact(x, 1, 12, 0, 0);
        colours(x, 1, 0, 10, 2, 0, 0);
        exact(x, 2, 144, 1, 0);
        way(x, 0, 4, 2, 8);
        x.link(0, 2, false);
        exact(x, 2, 144, 0, 0);
        check.due("2 gets no colour", NONE, x.soonest());
    }

    /** In each state behind two queries there still is one without colour. */
    private static void blanksUnknown() {
        SampleHouse x = made(8, 3, 2, 15, 1, 1);
        check.due("exact(1, 1)", 0, x.exact(1, 1));
        check.due("exact(3, 1)", UNKNOWN, x.exact(3, 1));
        check.due("exact(3, 0)", 280L * 280 * 280, x.exact(3, 0));
    }

    /** From node on: one says 0, one says 1, one says nothing. */
    private static void liars(SampleHouse x, int node) {
        x.kind(node, 1);
        x.kind(node + 1, 2);
        x.kind(node + 2, 4);
    }

    private static void odds() {
        SampleHouse x = made(3, 1, 1, 1, 1, 0, 1, 1);
        for (int t = 1; t <= 12; t++) {
            check.due("odds(" + t + ")", Float.floatToIntBits((float) x.exact(t, 1) / (float) x.exact(t, 0)), x.odds(t));
        }
        check.due("odds(2)", Float.floatToIntBits(4f / 36f), x.odds(2));
        x.query(1, 1);
        x.query(0, 4);
        check.due("split for good", Float.floatToIntBits(1f), x.odds(12));
        exact(x, 1, 6, 6, 0);
        // Many ways: both are rounded to floats ahead of the division.
        SampleHouse y = made(6, 1, 1, 1, 1, 0, 0, 0);
        liars(y, 3);
        long splits = y.exact(12, 1);
        check.due("more than a float holds", true, (long) (float) splits != splits);
        check.due("odds(12)", Float.floatToIntBits((float) splits / (float) y.exact(12, 0)), y.odds(12));
    }

    private static void way(SampleHouse x, int... nodeAndSample) {
        check.due("soonest()", nodeAndSample.length / 2, x.soonest());
        for (int i = 0; i < nodeAndSample.length; i++) {
            check.due("way(" + i / 2 + ", " + i % 2 + ")", nodeAndSample[i], x.way(i / 2, i % 2));
        }
        check.due("way behind its end", OTHERS, x.way(nodeAndSample.length / 2, 0));
        check.due("way(-1, 0)", OTHERS, x.way(-1, 0));
        check.due("way(0, 2)", OTHERS, x.way(0, 2));
        check.due("way(0, -1)", OTHERS, x.way(0, -1));
        check.due("way(FAR, 1)", OTHERS, x.way(FAR, 1));
        check.due("way(LOW, 0)", OTHERS, x.way(LOW, 0));
    }

    private static void soonest() {
        SampleHouse x = made(3, 1, 1, 1, 1, 0, 1, 1);
        way(x, 1, 1, 0, 4);
        check.due("no query is made", 0, x.count(12));
        check.due("nothing more to take back", 3, x.count(16));
        x.query(1, 1);
        way(x, 0, 4);
        x.query(0, 4);
        way(x);
        x.kind(0, 1);
        check.due("of two honest ones", NONE, x.soonest());
        x.back();
        way(x);
        SampleHouse y = made(4, 2, 2, 2, 1, 1, 1, 0, 0);
        check.due("a third of one colour leaves one alone with the other", NONE, y.soonest());
        SampleHouse z = made(5, 2, 2, 1, 1, 1, 1, 1, 0, 0);
        // 0 asks 1 and 2: 1; then the first for which 0 wins: 1 asks 3 and 4.
        way(z, 0, 6, 1, 24);
        z.protocol(0);
        check.due("slush never decides", NONE, z.soonest());
        check.due("none such", OTHERS, z.way(0, 0));
        SampleHouse w = made(2, 1, 1, 1, 1);
        check.due("nobody can ask", NONE, w.soonest());
        w.colour(0, 1);
        check.due("the other takes its colour", NONE, w.soonest());
        w.colour(1, 0);
        check.due("the first to ask makes both alike", NONE, w.soonest());
    }

    private static void chain() {
        SampleHouse x = new SampleHouse();
        long[][] four = {{0, 1, 0, 1}, {0, 1, 4, 1}, {1, 2, 7, 1}, {1, 1, 4, 1}, {1, 1, 0, 1}};
        for (int j = 0; j <= 4; j++) {
            for (int what = 0; what < 4; what++) {
                check.due("chain(" + j + ", " + what + ")", four[j][what], x.chain(j, what));
            }
        }
        for (int j : new int[] {-1, 5, FAR, LOW}) {
            check.due("chain(" + j + ", 0)", NONE, x.chain(j, 0));
            check.due("chain(" + j + ", 2)", NONE, x.chain(j, 2));
        }
        for (int what : new int[] {-1, 4, FAR, LOW}) {
            check.due("chain(1, " + what + ")", NONE, x.chain(1, what));
        }
        x.colour(0, 1);
        x.kind(1, 4);
        x.link(2, 3, false);
        x.protocol(2);
        check.due("all are honest, linked, slush", 7, x.chain(2, 2));
        x.group(4, 3, 3, 1);
        check.due("stays between", 0, x.chain(2, 0));
        check.due("stays between", 1, x.chain(2, 1));
        check.due("no time", NONE, x.chain(2, 2));
        check.due("no time", NONE, x.chain(2, 3));
        check.due("from 1 down", 4, x.chain(1, 2));
        check.due("from 0", 0, x.chain(0, 2));
        check.due("from 0", 1, x.chain(0, 3));
        check.due("from 4", 0, x.chain(4, 2));
    }

    public static void main(String[] args) {
        twoNodes();
        followsChanges();
        doNothing();
        blanks();
        blanksUnknown();
        odds();
        soonest();
        chain();
        check.end("OddsTest");
    }
}
