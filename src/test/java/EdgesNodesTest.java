/** Promises 1 to 11 and part 1 of the terms: each sentence that names a boundary has a test of its own. */
public final class EdgesNodesTest {
    private static final int NONE = SampleHouse.NONE;
    private static final int OTHERS = -2;
    private static final int SLUSH = 0;
    private static final int FLAKE = 1;
    private static final int BALL = 2;
    private static final int FAR = Integer.MAX_VALUE;
    private static final int LOW = Integer.MIN_VALUE;
    // In a group of five of the colours 1, 1, 1, 0, 0, asked by the first for two: 1 wins, 0 wins, none wins.
    private static final int FOR_1 = 0b00110;
    private static final int FOR_0 = 0b11000;
    private static final int FOR_NONE = 0b01010;
    private static Check check = new Check();

    private static void node(SampleHouse x, int node, int... want) {
        for (int what = 0; what < want.length; what++) {
            check.due("node(" + node + ", " + what + ")", want[what], x.node(node, what));
        }
    }

    private static SampleHouse made(int nodes, int sample, int alpha, int beta, int protocol, int... colours) {
        SampleHouse x = new SampleHouse();
        check.due("group", true, x.group(nodes, sample, alpha, beta));
        check.due("protocol", FLAKE, x.protocol(protocol));
        for (int i = 0; i < colours.length; i++) {
            check.due("colour", true, x.colour(i, colours[i]));
        }
        return x;
    }

    private static int[] ones(int n) {
        int[] ones = new int[n];
        java.util.Arrays.fill(ones, 1);
        return ones;
    }

    private static SampleHouse five(int beta, int protocol) {
        return made(5, 2, 2, beta, protocol, 1, 1, 1, 0, 0);
    }

    private static void ask(SampleHouse x, int... samplesAndAnswers) {
        for (int i = 0; i + 1 < samplesAndAnswers.length; i += 2) {
            int sample = samplesAndAnswers[i];
            check.due("query(0, " + sample + "), number " + i / 2, samplesAndAnswers[i + 1], x.query(0, sample));
        }
    }

    private static void noGroup(SampleHouse x, int nodes, int sample, int alpha, int beta) {
        String call = "group(" + nodes + ", " + sample + ", " + alpha + ", " + beta + ")";
        check.still(call, x, 0, () -> x.group(nodes, sample, alpha, beta) ? 1 : 0);
    }

    private static void aGroup(SampleHouse x, int nodes, int sample, int alpha, int beta) {
        String call = "group(" + nodes + ", " + sample + ", " + alpha + ", " + beta + ")";
        check.due(call, true, x.group(nodes, sample, alpha, beta));
        int[] want = {nodes, sample, alpha, beta};
        for (int what = 0; what < 4; what++) {
            check.due(call + " count(" + what + ")", want[what], x.count(what));
        }
    }

    /** The 512th call still tells right, of as many queries as there can have been. */
    private static void lastCall() {
        check.head("An object is used for at most 512 calls after it has been made");
        SampleHouse x = new SampleHouse();
        x.protocol(SLUSH);
        x.colour(0, 1);
        x.kind(1, 4);
        x.kind(2, 4);
        x.kind(3, 4);
        long made = 0;
        for (int call = 6; call <= 511; call++) {
            check.due("run", 0, x.run(300, call));
            Draws draws = new Draws(call);
            for (int i = 0; i < 300; i++) {
                int node = draws.of(4);
                draws.sample(4, node, 2);
                made += node == 0 ? 1 : 0;
            }
        }
        check.due("count(12), the 512th call", made, x.count(12));
    }

    private static void nodes() {
        check.term("NODES 2 to 8 (4 at first), numbered from 0.");
        SampleHouse x = new SampleHouse();
        check.due("count(0)", 4, x.count(0));
        for (int n : new int[] {LOW, -1, 0, 1, 9, 10, FAR}) {
            noGroup(x, n, 1, 1, 1);
        }
        for (int n = 2; n <= 8; n++) {
            aGroup(x, n, 1, 1, 1);
            check.due("the first node", NONE, x.node(0, 0));
            check.due("the last node", NONE, x.node(n - 1, 0));
            check.due("ahead of the first", OTHERS, x.node(-1, 0));
            check.due("behind the last", OTHERS, x.node(n, 0));
            check.due("the last has a colour", true, x.colour(n - 1, 1));
            check.due("count(8)", 1 << n - 1, x.count(8));
            check.due("count(6)", (1 << n) - 1, x.count(6));
        }
    }

    private static void sampleSizes() {
        check.term("SAMPLE k, 1 to one less than NODES (2 at first)");
        SampleHouse x = new SampleHouse();
        check.due("count(1)", 2, x.count(1));
        for (int n = 2; n <= 8; n++) {
            for (int k : new int[] {LOW, -1, 0, n, n + 1, FAR}) {
                noGroup(x, n, k, k, 1);
                noGroup(x, n, k, 1, 1);
            }
            aGroup(x, n, 1, 1, 1);
            aGroup(x, n, n - 1, n - 1, 1);
        }
    }

    private static void alphas() {
        check.term("ALPHA above half of k, k at most (2 at first)");
        SampleHouse x = new SampleHouse();
        check.due("count(2)", 2, x.count(2));
        for (int k = 1; k <= 7; k++) {
            for (int alpha : new int[] {LOW, -1, 0, k / 2, k + 1, 1 << 30, FAR}) {
                noGroup(x, 8, k, alpha, 1);
            }
            aGroup(x, 8, k, k / 2 + 1, 1);
            aGroup(x, 8, k, k, 1);
        }
    }

    private static void betas() {
        check.term("BETA 1 to 15 (3 at first)");
        SampleHouse x = new SampleHouse();
        check.due("count(3)", 3, x.count(3));
        for (int beta : new int[] {LOW, -1, 0, 16, FAR}) {
            noGroup(x, 4, 2, 2, beta);
        }
        aGroup(x, 4, 2, 2, 1);
        aGroup(x, 4, 2, 2, 15);
    }

    private static void early() {
        check.term("EARLY 1 to BETA (2 at first)");
        SampleHouse x = new SampleHouse();
        check.due("count(4)", 2, x.count(4));
        for (int beta : new int[] {15, 3, 2, 1}) {
            aGroup(x, 4, 2, 2, beta);
            for (int n : new int[] {LOW, -1, 0, beta + 1, 16, FAR}) {
                check.still("early(" + n + ")", x, NONE, () -> x.early(n));
            }
            check.due("early of 1", Math.min(2, beta), x.early(1));
            check.due("early of BETA", 1, x.early(beta));
            check.due("count(4)", beta, x.count(4));
            check.due("early again", beta, x.early(Math.min(2, beta)));
        }
    }

    private static void protocols() {
        check.term("PROTOCOL 0 SLUSH, 1 FLAKE (at first), 2 BALL.");
        SampleHouse x = new SampleHouse();
        check.due("count(5)", FLAKE, x.count(5));
        check.due("protocol(0)", FLAKE, x.protocol(0));
        check.due("protocol(2)", SLUSH, x.protocol(2));
        check.due("count(5)", BALL, x.count(5));
        check.promise(3, "PROTOCOL: what it was; NONE: others.");
        for (int p : new int[] {LOW, -1, 3, FAR}) {
            check.still("protocol(" + p + ")", x, NONE, () -> x.protocol(p));
        }
        check.due("protocol as it is", BALL, x.protocol(2));
    }

    private static void kinds() {
        check.term("KIND of a NODE: 0 HONEST (at first), liars: 1 says 0, 2 says 1, 3 says what the asking one is not, 4 says nothing.");
        int[][] said = {{0, 1}, {0, 0}, {1, 1}, {1, 0}, {0, 1}};
        for (int kind = 1; kind <= 4; kind++) {
            for (int colour = 0; colour < 2; colour++) {
                for (int own = NONE; own < 2; own++) {
                    SampleHouse x = made(2, 1, 1, 9, SLUSH, colour, own);
                    check.due("kind", 0, x.kind(1, kind));
                    x.query(0, 2);
                    check.due("kind " + kind + " to " + colour, said[kind][colour], x.node(0, 0));
                    check.due("the liar's own", own, x.node(1, 0));
                    check.due("count(6)", 1, x.count(6));
                }
            }
        }
    }

    private static void atFirst() {
        check.head("public static final int NONE = -1;");
        check.due("NONE", -1, SampleHouse.NONE);
        check.promise(1, "As told above (at first).");
        SampleHouse x = new SampleHouse();
        int[] counts = {4, 2, 2, 3, 2, FLAKE, 15, 0, 0, 0, 0, 0, 0, 0, 0, 0, 0};
        for (int what = 0; what < counts.length; what++) {
            check.due("count(" + what + ")", counts[what], x.count(what));
        }
        check.term("none at first), LAST (likewise), a COUNTER (0), CONFIDENCE in 0 and in 1 (0 each; 999 at most), may be DECIDED (not at first).");
        for (int i = 0; i < 4; i++) {
            node(x, i, NONE, NONE, 0, 0, 0, 0, 0, 0);
        }
        check.due("back()", false, x.back());
    }

    /** One that is told always the other colour trusts both in turn, till both stand at 999: then it changes no more. */
    private static void confidence() {
        check.term("CONFIDENCE in 0 and in 1 (0 each; 999 at most)");
        SampleHouse x = made(2, 1, 1, 15, BALL, 0);
        x.kind(1, 3);
        int decided = 0;
        for (int seed = 0; seed < 40 && decided == 0; seed++) {
            decided = x.run(300, seed);
        }
        check.due("it is decided", 1, decided);
        // 1 comes to 999 first, behind 1997 queries; 0 next; fourteen more make the COUNTER 15.
        node(x, 0, 1, 0, 15, 999, 999, 1, 0, 2012);
    }

    private static void whoAsks() {
        check.term("A QUERY of an HONEST NODE that is not DECIDED and has a COLOUR");
        SampleHouse x = made(3, 1, 1, 1, FLAKE, 1, 1, NONE);
        check.still("without COLOUR", x, NONE, () -> x.query(2, 1));
        check.still("without COLOUR", x, NONE, () -> x.would(2, 1));
        for (int kind = 1; kind <= 4; kind++) {
            x.kind(0, kind);
            check.still("a liar", x, NONE, () -> x.query(0, 2));
            check.still("a liar", x, NONE, () -> x.would(0, 2));
        }
        x.kind(0, 0);
        ask(x, 2, 2);
        check.still("DECIDED", x, NONE, () -> x.query(0, 2));
        check.still("DECIDED", x, NONE, () -> x.would(0, 2));
    }

    private static void samples() {
        check.term("with a SAMPLE of k others");
        for (int n = 2; n <= 8; n++) {
            for (int k = 1; k < n; k++) {
                SampleHouse x = made(n, k, k, 1, SLUSH, ones(n));
                for (int node = 0; node < n; node++) {
                    for (int bits = -512; bits < 512; bits++) {
                        boolean fits = bits >= 0 && bits < 1 << n && Integer.bitCount(bits) == k && (bits >> node & 1) == 0;
                        check.due("would(" + node + ", " + bits + ")", fits ? 0 : NONE, x.would(node, bits));
                    }
                }
            }
        }
        SampleHouse x = made(4, 2, 2, 3, FLAKE, 1, 1, 1, 1);
        for (int bits : new int[] {0, 1, 2, 3, 4, 14, 15, 16, 18, 22, 1 << 8, 1 << 31, LOW | 2, LOW | 6, -1, FAR}) {
            check.still("query(0, " + bits + ")", x, NONE, () -> x.query(0, bits));
        }
        for (int node : new int[] {LOW, -1, 4, 8, 32, FAR}) {
            check.still("query(" + node + ", 6)", x, NONE, () -> x.query(node, 6));
            check.still("would(" + node + ", 6)", x, NONE, () -> x.would(node, 6));
        }
    }

    private static void colourless() {
        check.term("if it has none, it has that of the asking one from now on, and says that");
        SampleHouse x = made(5, 3, 2, 3, FLAKE, 1, NONE, 0, 0, NONE);
        ask(x, 0b01110, 1);
        node(x, 0, 0, NONE, 1);
        check.due("the taker has what the asking one had ahead of it", 1, x.node(1, 0));
        check.due("one that was not asked has none", NONE, x.node(4, 0));
        SampleHouse y = made(4, 3, 3, 1, FLAKE, 0);
        ask(y, 0b1110, 2);
        for (int i = 1; i < 4; i++) {
            node(y, i, 0, NONE, 0, 0, 0, 0, 0, 0);
        }
        SampleHouse z = made(3, 2, 2, 1, FLAKE, 1);
        z.kind(1, 4);
        ask(z, 0b110, 0);
        node(z, 1, NONE);
        node(z, 2, 1);
    }

    private static void contrary() {
        check.term("a liar of KIND 3 the other one than the COLOUR of the asking one");
        SampleHouse x = made(2, 1, 1, 15, FLAKE, 1, 1);
        x.kind(1, 3);
        ask(x, 2, 1, 2, 1, 2, 1);
        node(x, 0, 0, NONE, 1);
    }

    /** ALPHA 4 of 7: three say 1 and four 0, four 1 and three 0, three each. */
    private static void alphaWins() {
        check.term("The colour that ALPHA of them say at least WINS, if any.");
        SampleHouse x = made(8, 7, 4, 15, FLAKE, 1, 1, 1, 1, 0, 0, 0, 0);
        ask(x, 0xFE, 1);
        node(x, 0, 0, NONE, 1);
        x.colour(7, 1);
        ask(x, 0xFE, 1);
        node(x, 0, 1, NONE, 1);
        x.kind(7, 4);
        ask(x, 0xFE, 0);
        node(x, 0, 1, NONE, 0);
        x.kind(7, 2);
        x.colour(4, 1);
        ask(x, 0xFE, 0);
        node(x, 0, 1, NONE, 1);
        SampleHouse y = made(8, 7, 7, 15, FLAKE, 1, 1, 1, 1, 1, 1, 1, 1);
        ask(y, 0xFE, 0);
        node(y, 0, 1, NONE, 1);
        y.colour(5, 0);
        ask(y, 0xFE, 0);
        node(y, 0, 1, NONE, 0);
    }

    private static void notLinked() {
        check.term("(One that is not LINKED to the asking one says nothing, and takes no COLOUR; all are LINKED at first.)");
        SampleHouse x = made(8, 7, 7, 15, FLAKE, 1);
        check.due("count(15)", 0, x.count(15));
        ask(x, 0xFE, 0);
        node(x, 0, 1, NONE, 1);
        for (int i = 1; i < 8; i++) {
            node(x, i, 1);
        }
        x.colour(7, NONE);
        x.link(7, 0, false);
        ask(x, 0xFE, 0);
        node(x, 0, 1, NONE, 0);
        node(x, 7, NONE);
        check.due("its link to another one is as it was", 0, x.query(1, 0xFD));
        node(x, 7, 1);
        SampleHouse y = made(2, 1, 1, 1, FLAKE, 1, 0);
        y.kind(1, 2);
        y.link(0, 1, false);
        ask(y, 2, 0);
        node(y, 0, 1, NONE, 0, 0, 0, 0);
    }

    private static void slush() {
        check.term("SLUSH: it is the COLOUR.");
        SampleHouse x = five(1, SLUSH);
        ask(x, FOR_1, 0, FOR_1, 0, FOR_NONE, 0);
        node(x, 0, 1, NONE, 0, 0, 0, 0, 0, 3);
        ask(x, FOR_0, 1, FOR_NONE, 0);
        node(x, 0, 0, NONE, 0, 0, 0, 0, 0, 5);
        SampleHouse y = five(3, FLAKE);
        ask(y, FOR_1, 0, FOR_1, 0);
        y.protocol(SLUSH);
        ask(y, FOR_NONE, 0, FOR_0, 1, FOR_1, 1);
        node(y, 0, 1, NONE, 2, 0, 0, 0);
        y.protocol(FLAKE);
        ask(y, FOR_1, 2);
    }

    /** What BALL left stays under FLAKE. */
    private static void flake() {
        check.term("FLAKE: none WINS: COUNTER is 0; it is another one than COLOUR: it is that, COUNTER is 1; else COUNTER is 1 more.");
        SampleHouse x = five(9, BALL);
        ask(x, FOR_1, 0);
        x.protocol(FLAKE);
        ask(x, FOR_1, 0);
        node(x, 0, 1, 1, 2, 0, 1, 0);
        ask(x, FOR_0, 1);
        node(x, 0, 0, 1, 1, 0, 1, 0);
        ask(x, FOR_0, 0);
        node(x, 0, 0, 1, 2, 0, 1, 0);
        ask(x, FOR_NONE, 0);
        node(x, 0, 0, 1, 0, 0, 1, 0);
        ask(x, FOR_NONE, 0);
        node(x, 0, 0, 1, 0, 0, 1, 0);
        ask(x, FOR_0, 0);
        node(x, 0, 0, 1, 1, 0, 1, 0);
    }

    private static void ballWithoutWinner() {
        check.term("BALL: none WINS: COUNTER is 0; else its CONFIDENCE is 1 more");
        SampleHouse x = five(9, BALL);
        ask(x, FOR_1, 0, FOR_1, 0, FOR_NONE, 0);
        node(x, 0, 1, 1, 0, 0, 2, 0);
        ask(x, FOR_NONE, 0);
        node(x, 0, 1, 1, 0, 0, 2, 0);
        ask(x, FOR_1, 0);
        node(x, 0, 1, 1, 1, 0, 3, 0);
        ask(x, FOR_0, 0);
        node(x, 0, 1, 0, 1, 1, 3, 0);
    }

    private static void ballAsMuchIsNotAbove() {
        check.term("is that above the CONFIDENCE in the COLOUR, it is the COLOUR");
        SampleHouse x = five(9, BALL);
        ask(x, FOR_1, 0, FOR_1, 0, FOR_0, 0, FOR_0, 0);
        node(x, 0, 1, 0, 2, 2, 2, 0);
        ask(x, FOR_0, 1);
        node(x, 0, 0, 0, 3, 3, 2, 0);
        ask(x, FOR_1, 0);
        node(x, 0, 0, 1, 1, 3, 3, 0);
        ask(x, FOR_1, 1);
        node(x, 0, 1, 1, 2, 3, 4, 0);
        SampleHouse y = five(9, BALL);
        ask(y, FOR_0, 1);
        node(y, 0, 0, 0, 1, 1, 0, 0);
    }

    private static void ballCountsByLast() {
        check.term("is it another one than LAST, it is that, COUNTER is 1, else COUNTER is 1 more.");
        SampleHouse x = five(9, FLAKE);
        ask(x, FOR_1, 0, FOR_1, 0);
        node(x, 0, 1, NONE, 2, 0, 0);
        x.protocol(BALL);
        ask(x, FOR_1, 0);
        node(x, 0, 1, 1, 1, 0, 1);
        ask(x, FOR_1, 0);
        node(x, 0, 1, 1, 2, 0, 2);
        ask(x, FOR_0, 0);
        node(x, 0, 1, 0, 1, 1, 2);
        ask(x, FOR_1, 0);
        node(x, 0, 1, 1, 1, 1, 3);
        SampleHouse y = five(9, BALL);
        ask(y, FOR_1, 0, FOR_NONE, 0, FOR_0, 0);
        node(y, 0, 1, 0, 1, 1, 1);
    }

    private static void decided() {
        check.term("FLAKE, BALL: DECIDED, as soon as COUNTER is BETA.");
        for (int protocol = FLAKE; protocol <= BALL; protocol++) {
            for (int beta : new int[] {1, 2, 3, 14, 15}) {
                SampleHouse x = five(beta, protocol);
                for (int i = 1; i < beta; i++) {
                    ask(x, FOR_1, 0);
                    check.due("not yet", 0, x.node(0, 5));
                }
                check.due("would", 2, x.would(0, FOR_1));
                ask(x, FOR_1, 2);
                node(x, 0, 1, protocol == BALL ? 1 : NONE, beta, 0, protocol == BALL ? beta : 0, 1, 0, beta);
                check.due("count(7)", 1, x.count(7));
            }
            SampleHouse y = five(1, protocol);
            ask(y, FOR_NONE, 0, FOR_0, 2);
            check.due("of the new colour", 0, y.node(0, 0));
        }
    }

    /** Its COUNTER is of LAST; its COLOUR is the one that it trusts more. */
    private static void decidedBesideItsColour() {
        check.term("FLAKE, BALL: DECIDED, as soon as COUNTER is BETA.");
        SampleHouse x = five(3, BALL);
        ask(x, FOR_1, 0, FOR_1, 0, FOR_NONE, 0, FOR_1, 0, FOR_1, 0, FOR_0, 0, FOR_0, 0, FOR_0, 2);
        node(x, 0, 1, 0, 3, 3, 4, 1);
    }

    /** Only the one that is to be drawn has a COLOUR, so that its SAMPLE can be read off those that take it. */
    private static void draws() {
        check.term("DRAWS: x (the seed at first) is x * 1103515245 + 12345 (an int, wrapping), a draw of m is (x >>> 8) % m.");
        int[] seeds = {0, 1, -1, 7, -12345, 1103515245, -1103515245, 1 << 30, FAR, FAR - 1, LOW, LOW + 1, 20261119};
        for (int seed : seeds) {
            for (int n = 2; n <= 8; n++) {
                for (int k = 1; k < n; k++) {
                    drawnOnce(n, k, seed);
                }
            }
        }
    }

    private static void drawnOnce(int n, int k, int seed) {
        Draws draws = new Draws(seed);
        int asker = draws.of(n);
        int sample = draws.sample(n, asker, k);
        SampleHouse x = made(n, k, k, 1, SLUSH);
        x.colour(asker, 1);
        String call = "group(" + n + ", " + k + ", ..) run(1, " + seed + ") ";
        check.due(call, 0, x.run(1, seed));
        check.due(call + "node(" + asker + ", 7)", 1, x.node(asker, 7));
        check.due(call + "count(8)", sample | 1 << asker, x.count(8));
    }

    /** Of two nodes the one that is left is drawn all the same, and a draw of one that is left goes on. */
    private static void drawsOfOne() {
        check.term("of the row of others, by numbers, k times one is taken out by a draw of how many are left.");
        for (int seed = -40; seed < 40; seed++) {
            for (int n = 2; n <= 4; n++) {
                Draws draws = new Draws(seed);
                int[] made = new int[n];
                SampleHouse x = made(n, n - 1, n - 1, 1, SLUSH, ones(n));
                for (int i = 0; i < 9; i++) {
                    int node = draws.of(n);
                    made[node]++;
                    draws.sample(n, node, n - 1);
                }
                x.run(9, seed);
                for (int i = 0; i < n; i++) {
                    check.due("run(9, " + seed + ") node(" + i + ", 7)", made[i], x.node(i, 7));
                }
            }
        }
    }

    private static SampleHouse busy() {
        SampleHouse x = made(4, 2, 2, 9, BALL, 1, 1, 1, 0);
        x.early(7);
        x.entry(0, NONE, NONE);
        x.entry(1, 0, NONE);
        x.kind(3, 2);
        x.link(0, 3, false);
        x.query(0, 6);
        x.run(9, 9);
        x.poll(0, 1, 6);
        x.polls(4, 3);
        return x;
    }

    private static void groupBeginsAnew() {
        check.promise(2, "true, all else (but PROTOCOL) is as at first (EARLY as it is, BETA at most)");
        SampleHouse x = busy();
        x.group(4, 2, 2, 9);
        check.due("EARLY as it is, PROTOCOL too", 7 * 10 + BALL, x.count(4) * 10 + x.count(5));
        x.group(4, 2, 2, 7);
        check.due("BETA is enough", 7, x.count(4));
        x.group(4, 2, 2, 6);
        check.due("BETA at most", 6, x.count(4));
        x.group(4, 2, 2, 15);
        check.due("and so it stays", 6, x.count(4));
        SampleHouse y = busy();
        check.due("it has counted", true, y.set(0, 0, 2) > 0 && y.set(0, 1, 1) == 1 && y.view(0, 1, 0) == 1);
        y.group(4, 2, 2, 3);
        y.protocol(FLAKE);
        y.early(2);
        check.due("all else as at first", true, Seen.of(y).equals(Seen.of(new SampleHouse())));
        check.due("none can be taken back", false, y.back());
        SampleHouse z = new SampleHouse();
        check.due("an entry again", 0, y.entry(0, NONE, NONE) + z.entry(0, NONE, NONE));
        check.due("another one", 2, y.entry(1, NONE, NONE) + z.entry(1, NONE, NONE));
        check.due("nothing is left of the old ones", true, Seen.of(y).equals(Seen.of(z)));
        check.due("0 is alone", 1 + 1, y.poll(0, 0, 6) + z.poll(0, 0, 6));
        y.early(1);
        check.due("1 is alone", 2, y.poll(0, 1, 6));
    }

    private static void groupIsRefused() {
        check.promise(2, "false: others.");
        SampleHouse x = busy();
        noGroup(x, 4, 4, 4, 4);
        noGroup(x, 1, 1, 1, 1);
        noGroup(x, 4, 2, 2, 16);
    }

    private static void earlyTells() {
        check.promise(4, "EARLY: what it was; NONE: others.");
        SampleHouse x = busy();
        check.due("early(9)", 7, x.early(9));
        check.still("early(10)", x, NONE, () -> x.early(10));
        check.still("early(0)", x, NONE, () -> x.early(0));
        check.due("early(1)", 9, x.early(1));
        check.due("count(4)", 1, x.count(4));
    }

    private static void kindLeavesAll() {
        check.promise(5, "KIND of a NODE: what it was (what it has, its view stay as they are); NONE: others.");
        SampleHouse x = busy();
        String view = Seen.view(x, 0);
        int[] has = new int[8];
        for (int what = 0; what < 8; what++) {
            has[what] = x.node(0, what);
        }
        for (int kind = 1; kind <= 4; kind++) {
            check.due("kind(0, " + kind + ")", kind - 1, x.kind(0, kind));
            has[6] = kind;
            node(x, 0, has);
        }
        check.due("kind as it is", 4, x.kind(0, 4));
        check.due("kind(0, 0)", 4, x.kind(0, 0));
        has[6] = 0;
        node(x, 0, has);
        check.due("its view", true, view.equals(Seen.view(x, 0)));
        for (int kind : new int[] {LOW, -1, 5, FAR}) {
            check.still("kind(1, " + kind + ")", x, NONE, () -> x.kind(1, kind));
        }
        for (int node : new int[] {LOW, -1, 4, 8, FAR}) {
            check.still("kind(" + node + ", 1)", x, NONE, () -> x.kind(node, 1));
        }
        SampleHouse y = made(2, 1, 1, 1, FLAKE, 1, 1);
        ask(y, 2, 2);
        y.kind(0, 4);
        check.due("a DECIDED one lies", 1, y.node(0, 5));
        y.kind(0, 0);
        check.still("and is DECIDED still", y, NONE, () -> y.query(0, 2));
    }

    private static void links() {
        check.promise(6, "Two NODES are LINKED, or not, both ways: true; false: others, unlike ones alone, it is so already.");
        SampleHouse x = made(4, 1, 1, 9, SLUSH, 1, 0, 0, 0);
        check.still("LINKED already", x, 0, () -> x.link(0, 1, true) ? 1 : 0);
        check.due("link(0, 1, false)", true, x.link(0, 1, false));
        check.still("not LINKED already", x, 0, () -> x.link(0, 1, false) ? 1 : 0);
        check.still("nor the other way", x, 0, () -> x.link(1, 0, false) ? 1 : 0);
        check.due("0 does not hear 1", 0, x.would(0, 2));
        check.due("0 hears 2", 1, x.would(0, 4));
        x.colour(1, 1);
        x.colour(0, 0);
        check.due("1 does not hear 0", 0, x.would(1, 1));
        check.due("link(1, 0, true)", true, x.link(1, 0, true));
        check.due("1 hears 0", 1, x.would(1, 1));
        check.due("0 hears 1", 1, x.would(0, 2));
        check.still("LINKED already", x, 0, () -> x.link(0, 1, true) ? 1 : 0);
        for (int i = 0; i < 4; i++) {
            int node = i;
            check.still("with itself", x, 0, () -> x.link(node, node, false) ? 1 : 0);
            check.still("with itself", x, 0, () -> x.link(node, node, true) ? 1 : 0);
        }
        for (int other : new int[] {LOW, -1, 4, 8, 31, 32, FAR}) {
            check.still("link(0, " + other + ", false)", x, 0, () -> x.link(0, other, false) ? 1 : 0);
            check.still("link(" + other + ", 0, false)", x, 0, () -> x.link(other, 0, false) ? 1 : 0);
            check.still("link(0, " + other + ", true)", x, 0, () -> x.link(0, other, true) ? 1 : 0);
            check.still("link(" + other + ", " + other + ", true)", x, 0, () -> x.link(other, other, true) ? 1 : 0);
        }
    }

    private static void colours() {
        check.promise(7, "A NODE has a COLOUR (NONE: none), LAST none, COUNTER and CONFIDENCE 0, is not DECIDED (its KIND stays): true; false: others.");
        for (int colour = NONE; colour <= 1; colour++) {
            SampleHouse x = five(3, BALL);
            ask(x, FOR_0, 1, FOR_1, 0, FOR_1, 1, FOR_1, 2);
            node(x, 0, 1, 1, 3, 1, 3, 1, 0, 4);
            x.kind(0, 3);
            check.due("colour(0, " + colour + ")", true, x.colour(0, colour));
            node(x, 0, colour, NONE, 0, 0, 0, 0, 3, 4);
        }
        SampleHouse x = busy();
        String view = Seen.view(x, 0);
        x.colour(0, 0);
        check.due("its view stays", true, view.equals(Seen.view(x, 0)));
        check.due("its links stay", 1, x.count(15));
        for (int colour : new int[] {LOW, -2, 2, 3, FAR}) {
            check.still("colour(0, " + colour + ")", x, 0, () -> x.colour(0, colour) ? 1 : 0);
        }
        for (int node : new int[] {LOW, -1, 4, 8, FAR}) {
            check.still("colour(" + node + ", 1)", x, 0, () -> x.colour(node, 1) ? 1 : 0);
        }
    }

    private static void queryTells() {
        check.promise(8, "0 nothing is another, 1 its COLOUR is another one, 2 it is DECIDED; NONE: others, it can't be, not k others.");
        SampleHouse x = five(2, FLAKE);
        ask(x, FOR_NONE, 0, FOR_1, 0, FOR_0, 1, FOR_0, 2, FOR_0, NONE, FOR_1, NONE);
        SampleHouse y = five(1, FLAKE);
        check.due("another COLOUR, but DECIDED too", 2, y.query(0, FOR_0));
        node(y, 0, 0, NONE, 1, 0, 0, 1);
        SampleHouse z = made(3, 1, 1, 3, FLAKE, 1);
        check.due("only another one's COLOUR", 0, z.query(0, 2));
        check.still("itself", z, NONE, () -> z.query(0, 1));
        check.still("two", z, NONE, () -> z.query(0, 6));
        check.still("nobody", z, NONE, () -> z.query(0, 0));
        check.still("not there", z, NONE, () -> z.query(0, 8));
    }

    private static void wouldTells() {
        check.promise(9, "What query() would tell; nothing changes.");
        SampleHouse x = five(2, FLAKE);
        x.colour(4, NONE);
        check.still("0 by 3, 1 by 4", x, 0, () -> x.would(0, FOR_0));
        x.colour(4, 0);
        check.still("another colour", x, 1, () -> x.would(0, FOR_0));
        ask(x, FOR_0, 1);
        check.still("another colour", x, 1, () -> x.would(0, FOR_1));
        check.still("DECIDED", x, 2, () -> x.would(0, FOR_0));
        check.still("itself", x, NONE, () -> x.would(0, 3));
        ask(x, FOR_0, 2);
        check.still("it can't be", x, NONE, () -> x.would(0, FOR_0));
        for (int protocol = SLUSH; protocol <= BALL; protocol++) {
            SampleHouse y = made(3, 2, 2, 1, protocol, 0);
            check.still("all would take its colour", y, protocol == SLUSH ? 0 : 2, () -> y.would(0, 6));
        }
    }

    private static void runs() {
        check.promise(10, "n (1 to 300) QUERIES drawn: each a draw of NODES, then its SAMPLE (always drawn); one that can't be does nothing");
        SampleHouse x = made(3, 1, 1, 1, FLAKE, 1, 1, 1);
        for (int n : new int[] {LOW, -1, 0, 301, FAR}) {
            check.still("run(" + n + ", 1)", x, NONE, () -> x.run(n, 1));
        }
        for (int n : new int[] {1, 300}) {
            for (int seed = 0; seed < 30; seed++) {
                drawnRun(n, seed);
            }
        }
        check.promise(10, "how many came to be DECIDED; NONE: others.");
        check.due("run(300, 1)", 3, x.run(300, 1));
        check.due("none is left", 0, x.run(300, 2));
        check.due("count(12)", 3, x.count(12));
    }

    /** Of eight only two can ask, and their samples are read off what the silent others would take. */
    private static void drawnRun(int n, int seed) {
        SampleHouse x = made(8, 3, 3, 15, SLUSH, 1, 1);
        Draws draws = new Draws(seed);
        int made = 0;
        int ones = 3;
        for (int i = 0; i < n; i++) {
            int node = draws.of(8);
            int sample = draws.sample(8, node, 3);
            if ((ones >> node & 1) == 1) {
                made++;
                ones |= sample;
            }
        }
        check.due("run(" + n + ", " + seed + ")", 0, x.run(n, seed));
        check.due("run(" + n + ", " + seed + ") count(12)", made, x.count(12));
        check.due("run(" + n + ", " + seed + ") count(8)", ones, x.count(8));
    }

    private static void nodeTells() {
        check.promise(11, "Of a NODE, what 0: COLOUR (NONE), 1: LAST (NONE), 2: COUNTER");
        SampleHouse x = five(3, BALL);
        node(x, 0, 1, NONE, 0);
        x.colour(0, NONE);
        node(x, 0, NONE, NONE, 0);
        x.colour(0, 1);
        check.promise(11, "7: QUERIES it made; -2: others.");
        ask(x, FOR_1, 0, FOR_NONE, 0, FOR_1, 0, FOR_1, 0, FOR_1, 2, FOR_1, NONE);
        x.would(0, FOR_1);
        node(x, 0, 1, 1, 3, 0, 4, 1, 0, 5);
        x.kind(0, 2);
        node(x, 0, 1, 1, 3, 0, 4, 1, 2, 5);
        for (int node : new int[] {LOW, -1, 5, 8, FAR}) {
            for (int what = 0; what < 8; what++) {
                int asked = what;
                check.still("node(" + node + ", " + what + ")", x, OTHERS, () -> x.node(node, asked));
            }
        }
        for (int what : new int[] {LOW, -2, -1, 8, 9, FAR}) {
            check.still("node(0, " + what + ")", x, OTHERS, () -> x.node(0, what));
        }
    }

    public static void main(String[] args) {
        lastCall();
        nodes();
        sampleSizes();
        alphas();
        betas();
        early();
        protocols();
        kinds();
        atFirst();
        confidence();
        whoAsks();
        samples();
        colourless();
        contrary();
        alphaWins();
        notLinked();
        slush();
        flake();
        ballWithoutWinner();
        ballAsMuchIsNotAbove();
        ballCountsByLast();
        decided();
        decidedBesideItsColour();
        draws();
        drawsOfOne();
        groupBeginsAnew();
        groupIsRefused();
        earlyTells();
        kindLeavesAll();
        links();
        colours();
        queryTells();
        wouldTells();
        runs();
        nodeTells();
        check.promised(1, 11);
        check.end("EdgesNodesTest");
    }
}
