/** Promises 1 to 11: settings, nodes and queries. */
public final class NodesTest {
    private static final int NONE = SampleHouse.NONE;
    private static final int FAR = Integer.MAX_VALUE;
    private static final int LOW = Integer.MIN_VALUE;
    private static Check check = new Check();

    private static void node(SampleHouse x, int node, int... want) {
        for (int what = 0; what < want.length; what++) {
            check.due("node(" + node + ", " + what + ")", want[what], x.node(node, what));
        }
    }

    private static void counts(SampleHouse x, int... whatAndWant) {
        for (int i = 0; i + 1 < whatAndWant.length; i += 2) {
            check.due("count(" + whatAndWant[i] + ")", whatAndWant[i + 1], x.count(whatAndWant[i]));
        }
    }

    private static SampleHouse made(int nodes, int sample, int alpha, int beta, int protocol, int... colours) {
        SampleHouse x = new SampleHouse();
        check.due("group", true, x.group(nodes, sample, alpha, beta));
        check.due("protocol", 1, x.protocol(protocol));
        for (int i = 0; i < colours.length; i++) {
            check.due("colour", true, x.colour(i, colours[i]));
        }
        return x;
    }

    private static void promise1() {
        check.due("NONE", -1, SampleHouse.NONE);
        SampleHouse x = new SampleHouse();
        counts(x, 0, 4, 1, 2, 2, 2, 3, 3, 4, 2, 5, 1, 6, 15, 7, 0, 8, 0, 9, 0, 10, 0, 11, 0, 12, 0, 13, 0, 14, 0, 15, 0, 16, 0);
        for (int i = 0; i < 4; i++) {
            node(x, i, NONE, NONE, 0, 0, 0, 0, 0, 0);
        }
        SampleHouse y = new SampleHouse();
        y.group(3, 1, 1, 1);
        y.colour(0, 1);
        counts(x, 0, 4, 16, 0);
        node(x, 0, NONE);
    }

    private static void promise2() {
        SampleHouse x = new SampleHouse();
        int[][] wrong = {{1, 1, 1, 1}, {9, 1, 1, 1}, {LOW, 1, 1, 1}, {FAR, 1, 1, 1}, {4, 0, 0, 3}, {4, 0, 1, 3}, {4, 4, 3, 3},
            {4, -1, 1, 3}, {4, 2, 1, 3}, {4, 2, 3, 3}, {4, 3, 1, 3}, {4, 1, 0, 3}, {8, 7, 3, 3}, {8, 6, 3, 3}, {8, 7, 8, 3},
            {4, 2, 2, 0}, {4, 2, 2, 16}, {4, 2, 2, -1}, {4, 2, 2, FAR}, {4, 2, 1 << 30, 3}, {4, 2, FAR, 3}, {4, 2, LOW, 3}};
        for (int[] w : wrong) {
            check.due("group" + java.util.Arrays.toString(w), false, x.group(w[0], w[1], w[2], w[3]));
        }
        counts(x, 0, 4, 1, 2, 2, 2, 3, 3, 4, 2);
        int[][] right = {{2, 1, 1, 1}, {8, 7, 4, 15}, {8, 6, 4, 1}, {8, 1, 1, 2}, {3, 2, 2, 2}, {8, 7, 7, 15}, {5, 3, 2, 9}};
        for (int[] r : right) {
            check.due("group" + java.util.Arrays.toString(r), true, x.group(r[0], r[1], r[2], r[3]));
            counts(x, 0, r[0], 1, r[1], 2, r[2], 3, r[3]);
        }
    }

    /** All else is as at first, but PROTOCOL, and EARLY where BETA allows it. */
    private static void promise2LeavesNothing() {
        SampleHouse x = new SampleHouse();
        x.protocol(2);
        x.group(4, 1, 1, 9);
        x.early(7);
        x.entry(0, NONE, NONE);
        x.colour(0, 1);
        x.colour(1, 1);
        x.kind(3, 2);
        x.link(0, 2, false);
        x.query(0, 2);
        x.poll(0, 0, 2);
        x.group(4, 1, 1, 8);
        counts(x, 4, 7, 5, 2, 6, 15, 7, 0, 8, 0, 9, 0, 12, 0, 13, 0, 15, 0, 16, 0);
        node(x, 0, NONE, NONE, 0, 0, 0, 0, 0, 0);
        check.due("back", false, x.back());
        check.due("entry is the first again", 0, x.entry(3, NONE, NONE));
        check.due("no chit", 0, x.view(0, 0, 0));
        check.due("not polled", 0, x.view(0, 0, 1));
        for (int what = 0; what < 4; what++) {
            check.due("set 0 as at first", what == 2 ? 0 : NONE, x.set(0, 0, what));
        }
        check.due("set 0 again", 1, x.entry(0, NONE, NONE));
        check.due("the first of its set again", 1, x.set(0, 0, 0));
        check.due("no ancestors of the old", 0, x.of(1, 3) + x.of(0, 4));
        x.group(4, 1, 1, 3);
        counts(x, 4, 3);
        x.group(4, 1, 1, 15);
        counts(x, 4, 3);
        check.due("a refused one", false, x.group(4, 4, 4, 4));
        x.colour(0, 1);
        check.due("a refused one", false, x.group(4, 4, 4, 4));
        counts(x, 8, 1, 16, 1);
    }

    private static void promises3And4() {
        SampleHouse x = new SampleHouse();
        check.due("protocol(0)", 1, x.protocol(0));
        check.due("protocol(2)", 0, x.protocol(2));
        check.due("protocol(2)", 2, x.protocol(2));
        for (int p : new int[] {-1, 3, FAR, LOW}) {
            check.due("protocol(" + p + ")", NONE, x.protocol(p));
        }
        check.due("protocol(1)", 2, x.protocol(1));
        check.due("early(3)", 2, x.early(3));
        check.due("early(1)", 3, x.early(1));
        for (int n : new int[] {0, 4, -1, FAR, LOW}) {
            check.due("early(" + n + ")", NONE, x.early(n));
        }
        counts(x, 4, 1, 5, 1, 16, 0);
    }

    private static void promise5() {
        SampleHouse x = made(4, 1, 1, 3, 1, 1, 1, 0);
        check.due("query", 0, x.query(0, 2));
        for (int kind = 1; kind <= 4; kind++) {
            check.due("kind(0, " + kind + ")", kind - 1, x.kind(0, kind));
        }
        node(x, 0, 1, NONE, 1, 0, 0, 0, 4, 1);
        counts(x, 6, 14);
        check.due("kind(0, 4)", 4, x.kind(0, 4));
        check.due("a liar asks", NONE, x.query(0, 2));
        check.due("kind(0, 0)", 4, x.kind(0, 0));
        check.due("honest again, as it was", 0, x.query(0, 2));
        node(x, 0, 1, NONE, 2);
        check.due("decided", 2, x.query(0, 2));
        check.due("a decided one lies", 0, x.kind(0, 1));
        counts(x, 7, 1, 6, 14, 8, 2);
        for (int[] w : new int[][] {{-1, 0}, {4, 0}, {0, -1}, {0, 5}, {FAR, 1}, {LOW, 1}, {1, FAR}, {1, LOW}}) {
            check.due("kind(" + w[0] + ", " + w[1] + ")", NONE, x.kind(w[0], w[1]));
        }
    }

    private static void promise6() {
        SampleHouse x = made(4, 2, 2, 3, 1, 1, 0, 0);
        check.due("link on as it is", false, x.link(0, 1, true));
        check.due("link off", true, x.link(0, 1, false));
        check.due("link off again", false, x.link(0, 1, false));
        check.due("link off the other way", false, x.link(1, 0, false));
        counts(x, 15, 1);
        check.due("1 says nothing", 0, x.query(0, 6));
        node(x, 0, 1, NONE, 0);
        check.due("link on the other way", true, x.link(1, 0, true));
        counts(x, 15, 0);
        check.due("1 and 2 say 0", 1, x.query(0, 6));
        for (int[] w : new int[][] {{0, 0}, {-1, 0}, {0, -1}, {4, 0}, {0, 4}, {FAR, 0}, {0, LOW}, {0, 32}}) {
            check.due("link(" + w[0] + ", " + w[1] + ", false)", false, x.link(w[0], w[1], false));
            check.due("link(" + w[0] + ", " + w[1] + ", true)", false, x.link(w[0], w[1], true));
        }
        x.link(0, 3, false);
        check.due("3 takes no colour", 0, x.query(0, 10));
        node(x, 3, NONE);
        node(x, 0, 0, NONE, 0);
        x.kind(1, 2);
        x.link(0, 1, false);
        check.due("a liar that is not linked says nothing", 0, x.query(0, 6));
    }

    private static void promise7() {
        SampleHouse x = made(3, 1, 1, 2, 2, 1, 1, 0);
        x.query(0, 2);
        x.query(0, 2);
        node(x, 0, 1, 1, 2, 0, 2, 1, 0, 2);
        check.due("colour(0, 0)", true, x.colour(0, 0));
        node(x, 0, 0, NONE, 0, 0, 0, 0, 0, 2);
        x.kind(0, 3);
        check.due("colour(0, NONE)", true, x.colour(0, NONE));
        node(x, 0, NONE, NONE, 0, 0, 0, 0, 3, 2);
        for (int[] w : new int[][] {{0, 2}, {0, -2}, {-1, 0}, {3, 0}, {FAR, 0}, {LOW, 0}, {0, FAR}, {0, LOW}}) {
            check.due("colour(" + w[0] + ", " + w[1] + ")", false, x.colour(w[0], w[1]));
        }
    }

    private static void promise8Refuses() {
        SampleHouse x = made(4, 2, 2, 1, 1, 1, 1, 1);
        for (int sample : new int[] {0, 1, 3, 5, 2, 4, 14, 18, 34, 16, 48, -1, LOW, FAR, LOW | 6, -2}) {
            check.due("query(0, " + sample + ")", NONE, x.query(0, sample));
            check.due("would(0, " + sample + ")", NONE, x.would(0, sample));
        }
        for (int node : new int[] {-1, 4, 8, 32, FAR, LOW}) {
            check.due("query(" + node + ", 6)", NONE, x.query(node, 6));
        }
        check.due("without colour", NONE, x.query(3, 6));
        x.kind(0, 2);
        check.due("a liar", NONE, x.query(0, 6));
        x.kind(0, 0);
        counts(x, 12, 0, 16, 5);
        check.due("query(0, 6)", 2, x.query(0, 6));
        check.due("decided", NONE, x.query(0, 6));
        counts(x, 12, 1, 7, 1);
    }

    private static void slush() {
        SampleHouse x = made(4, 3, 2, 1, 0, 1, 0, 1);
        check.due("3 takes 1: 1 wins", 0, x.query(0, 14));
        node(x, 3, 1);
        node(x, 0, 1, NONE, 0, 0, 0, 0, 0, 1);
        check.due("1 wins", 1, x.query(1, 13));
        node(x, 1, 1, NONE, 0, 0, 0, 0, 0, 1);
        x.kind(2, 4);
        x.kind(3, 1);
        x.colour(1, 0);
        check.due("only 1 and 3 say 0", 1, x.query(0, 14));
        x.colour(1, 1);
        check.due("none wins, slush keeps all", 0, x.query(0, 14));
        node(x, 0, 0, NONE, 0, 0, 0, 0, 0, 3);
    }

    private static void flake() {
        SampleHouse x = made(5, 2, 2, 3, 1, 1, 1, 1, 0, 0);
        check.due("1 wins", 0, x.query(0, 6));
        check.due("1 wins", 0, x.query(0, 6));
        node(x, 0, 1, NONE, 2, 0, 0, 0, 0, 2);
        check.due("none wins", 0, x.query(0, 10));
        node(x, 0, 1, NONE, 0, 0, 0, 0);
        check.due("1 wins", 0, x.query(0, 6));
        check.due("0 wins", 1, x.query(0, 24));
        node(x, 0, 0, NONE, 1, 0, 0, 0);
        check.due("0 wins", 0, x.query(0, 24));
        check.due("0 wins, the third time", 2, x.query(0, 24));
        node(x, 0, 0, NONE, 3, 0, 0, 1, 0, 7);
        SampleHouse y = made(2, 1, 1, 1, 1, 1, 0);
        check.due("another colour and decided", 2, y.query(0, 2));
        node(y, 0, 0, NONE, 1, 0, 0, 1);
        SampleHouse z = made(2, 1, 1, 15, 1, 1, 1);
        for (int i = 1; i < 15; i++) {
            check.due("not yet", 0, z.query(0, 2));
        }
        check.due("BETA 15", 2, z.query(0, 2));
        node(z, 0, 1, NONE, 15, 0, 0, 1, 0, 15);
    }

    private static void ball() {
        SampleHouse x = made(5, 2, 2, 4, 2, 1, 1, 1, 0, 0);
        check.due("1 wins", 0, x.query(0, 6));
        node(x, 0, 1, 1, 1, 0, 1, 0);
        check.due("1 wins", 0, x.query(0, 6));
        node(x, 0, 1, 1, 2, 0, 2, 0);
        check.due("0 wins, 1 is trusted", 0, x.query(0, 24));
        node(x, 0, 1, 0, 1, 1, 2, 0);
        check.due("0 wins, as much trusted", 0, x.query(0, 24));
        node(x, 0, 1, 0, 2, 2, 2, 0);
        check.due("none wins", 0, x.query(0, 10));
        node(x, 0, 1, 0, 0, 2, 2, 0);
        check.due("0 wins, more trusted", 1, x.query(0, 24));
        node(x, 0, 0, 0, 1, 3, 2, 0);
        x.query(0, 24);
        x.query(0, 24);
        check.due("0 the fourth time", 2, x.query(0, 24));
        node(x, 0, 0, 0, 4, 6, 2, 1);
    }

    /** BALL: a counter can decide a node while it has the other colour. */
    private static void ballDecidesByLast() {
        SampleHouse x = made(5, 2, 2, 3, 2, 1, 1, 1, 0, 0);
        for (int i = 0; i < 4; i++) {
            x.query(0, i % 2 == 0 ? 6 : 10);
        }
        x.query(0, 6);
        x.query(0, 6);
        node(x, 0, 1, 1, 2, 0, 4, 0);
        x.query(0, 24);
        x.query(0, 24);
        check.due("0 the third time", 2, x.query(0, 24));
        node(x, 0, 1, 0, 3, 3, 4, 1);
    }

    private static void confidenceEndsAt999() {
        SampleHouse x = made(3, 1, 1, 2, 2, 1, 1, 0);
        for (int i = 0; i < 1005; i++) {
            x.query(0, 2);
            x.query(0, 4);
        }
        // 1 was one ahead each time, till both are 999: then 0 is never above it.
        node(x, 0, 1, 0, 1, 999, 999, 0, 0, 2010);
    }

    private static void liars() {
        SampleHouse x = made(4, 1, 1, 15, 0, 0, 0, 0, 0);
        x.kind(1, 2);
        check.due("kind 2 says 1", 1, x.query(0, 2));
        x.kind(1, 1);
        check.due("kind 1 says 0", 1, x.query(0, 2));
        x.kind(1, 3);
        check.due("kind 3 says 1 to 0", 1, x.query(0, 2));
        check.due("kind 3 says 0 to 1", 1, x.query(0, 2));
        x.kind(1, 4);
        x.colour(1, 1);
        check.due("kind 4 says nothing", 0, x.query(0, 2));
        x.colour(1, NONE);
        for (int kind = 1; kind <= 4; kind++) {
            x.kind(1, kind);
            x.query(0, 2);
            node(x, 1, NONE);
        }
    }

    /** One without colour takes that which the asking one had ahead of the query. */
    private static void blanksTake() {
        SampleHouse x = made(5, 3, 2, 2, 1, 1, NONE, 0, 0, NONE);
        check.due("2 and 3 outvote 1", 1, x.query(0, 14));
        node(x, 0, 0, NONE, 1);
        node(x, 1, 1, NONE, 0, 0, 0, 0, 0, 0);
        SampleHouse y = made(3, 2, 2, 2, 1, NONE, NONE, 1);
        check.due("0 and 1 take 1", 0, y.query(2, 3));
        node(y, 0, 1, NONE, 0, 0, 0, 0, 0, 0);
        node(y, 1, 1, NONE, 0, 0, 0, 0, 0, 0);
        node(y, 2, 1, NONE, 1, 0, 0, 0, 0, 1);
        node(x, 4, NONE);
        check.due("1 again by 1 and 4, which takes 0", 2, x.query(0, 26));
        node(x, 4, 0);
    }

    private static void promise9() {
        SampleHouse x = made(4, 2, 2, 2, 1, 1, 0, 0, NONE);
        check.due("would(0, 6)", 1, x.would(0, 6));
        check.due("would(0, 10)", 0, x.would(0, 10));
        check.due("would(3, 6)", NONE, x.would(3, 6));
        node(x, 0, 1, NONE, 0, 0, 0, 0, 0, 0);
        node(x, 3, NONE);
        counts(x, 12, 0, 16, 4);
        x.query(0, 6);
        check.due("would(0, 6)", 2, x.would(0, 6));
        node(x, 0, 0, NONE, 1, 0, 0, 0, 0, 1);
        check.due("would after all", 2, x.query(0, 6));
    }

    private static void promise10() {
        int[][] groups = {{4, 2, 2}, {6, 3, 2}, {8, 7, 4}, {8, 1, 1}, {2, 1, 1}, {5, 4, 3}};
        for (int[] g : groups) {
            for (int seed : new int[] {1, 0, -1, LOW, FAR, 20261119}) {
                for (int n : new int[] {1, 7, 12, 60, 300}) {
                    drawnRun(g[0], g[1], g[2], n, seed);
                }
            }
        }
    }

    /** The same by single queries. */
    private static void drawnRun(int nodes, int sample, int alpha, int n, int first) {
        int[] colours = new int[nodes - 1];
        for (int i = 0; i < nodes - 1; i++) {
            colours[i] = i & 1;
        }
        SampleHouse x = made(nodes, sample, alpha, 3, 1, colours);
        SampleHouse y = made(nodes, sample, alpha, 3, 1, colours);
        Draws draws = new Draws(first);
        int decided = 0;
        for (int i = 0; i < n; i++) {
            int node = draws.of(nodes);
            decided += y.query(node, draws.sample(nodes, node, sample)) == 2 ? 1 : 0;
        }
        check.due("run(" + n + ", " + first + ")", decided, x.run(n, first));
        for (int i = 0; i < nodes; i++) {
            node(x, i, y.node(i, 0), y.node(i, 1), y.node(i, 2), 0, 0, y.node(i, 5), 0, y.node(i, 7));
        }
        counts(x, 12, y.count(12), 16, nodes);
    }

    private static void promise10Edges() {
        SampleHouse x = new SampleHouse();
        for (int n : new int[] {0, 301, -1, FAR, LOW}) {
            check.due("run(" + n + ", 5)", NONE, x.run(n, 5));
        }
        counts(x, 16, 0);
        check.due("nobody can", 0, x.run(300, 5));
        check.due("nobody can", 0, x.run(1, LOW));
        counts(x, 12, 0, 16, 2);
        x.group(2, 1, 1, 1);
        x.colour(0, 1);
        check.due("all decide", 2, x.run(300, -7));
        counts(x, 7, 3, 12, 2, 8, 3);
    }

    private static void promise11() {
        SampleHouse x = made(3, 1, 1, 2, 1, 0, 1);
        for (int[] w : new int[][] {{-1, 0}, {3, 0}, {0, -1}, {0, 8}, {FAR, 0}, {LOW, 0}, {0, FAR}, {0, LOW}, {3, 9}}) {
            check.due("node(" + w[0] + ", " + w[1] + ")", -2, x.node(w[0], w[1]));
        }
        x.kind(2, 4);
        node(x, 2, NONE, NONE, 0, 0, 0, 0, 4, 0);
    }

    public static void main(String[] args) {
        promise1();
        promise2();
        promise2LeavesNothing();
        promises3And4();
        promise5();
        promise6();
        promise7();
        promise8Refuses();
        slush();
        flake();
        ball();
        ballDecidesByLast();
        confidenceEndsAt999();
        liars();
        blanksTake();
        promise9();
        promise10();
        promise10Edges();
        promise11();
        check.end("NodesTest");
    }
}
