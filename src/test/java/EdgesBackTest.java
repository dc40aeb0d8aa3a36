/** Promises 26 and 27, BACK and what count() tells: each sentence that names a boundary has a test of its own. */
public final class EdgesBackTest {
    private static final int NONE = SampleHouse.NONE;
    private static final int FAR = Integer.MAX_VALUE;
    private static final int LOW = Integer.MIN_VALUE;
    private static final int QUERIES_MADE = 12;
    private static final int POLLS_MADE = 13;
    private static final int KEPT = 16;
    // query(), run(), colour(), kind(), link(), poll(), polls().
    private static final int CALLS = 7;
    private static Check check = new Check();

    /** Four nodes of which the last says yes and 1 to all, and a chain of three entries beside another one. */
    private static SampleHouse busy() {
        SampleHouse x = new SampleHouse();
        check.due("group", true, x.group(4, 1, 1, 2));
        for (int[] e : new int[][] {{0, NONE, NONE}, {0, NONE, NONE}, {1, 1, NONE}, {2, 2, NONE}}) {
            check.due("entry", true, x.entry(e[0], e[1], e[2]) >= 0);
        }
        x.kind(3, 2);
        for (int i = 0; i < 3; i++) {
            x.colour(i, 0);
        }
        check.due("four can be taken back", 4, x.count(KEPT));
        return x;
    }

    private static void change(SampleHouse x, int call) {
        switch (call) {
            case 0: check.due("query", 1, x.query(0, 8)); break;
            case 1: check.due("run", true, x.run(30, 3) >= 0); break;
            case 2: check.due("colour", true, x.colour(1, 1)); break;
            case 3: check.due("kind", 0, x.kind(2, 3)); break;
            case 4: check.due("link", true, x.link(0, 3, false)); break;
            case 5: check.due("poll", 1, x.poll(0, 2, 8)); break;
            default: check.due("polls", true, x.polls(30, 3) > 0); break;
        }
    }

    private static void eachAlone() {
        check.term("BACK: what was done by query(), run(), colour(), kind(), link(), poll(), polls(), if not refused, is taken back");
        for (int call = 0; call < CALLS; call++) {
            SampleHouse x = busy();
            String before = Seen.group(x);
            change(x, call);
            check.due("call " + call + " changes it", false, before.equals(Seen.group(x)));
            check.due("count(16)", 5, x.count(KEPT));
            check.due("back", true, x.back());
            check.due("call " + call + " is taken back", true, before.equals(Seen.group(x)));
            check.due("count(16)", 4, x.count(KEPT));
            check.due("links are as they were", 1, x.would(0, 8));
        }
    }

    private static void lastFirst() {
        check.term("is taken back, the last of these first, 8 of them at most");
        SampleHouse x = new SampleHouse();
        String[] before = new String[20];
        for (int i = 0; i < 20; i++) {
            before[i] = Seen.group(x);
            check.due("colour", true, x.colour(i % 4, i / 4 % 2));
            check.due("count(16)", Math.min(i + 1, 8), x.count(KEPT));
        }
        for (int i = 19; i >= 12; i--) {
            check.due("back", true, x.back());
            check.due("as ahead of change " + i, true, before[i].equals(Seen.group(x)));
            check.due("count(16)", i - 12, x.count(KEPT));
        }
        check.still("none can be", x, 0, () -> x.back() ? 1 : 0);
        x.colour(0, NONE);
        check.due("again one", true, x.back());
        check.still("none can be", x, 0, () -> x.back() ? 1 : 0);
        check.due("as ahead of change 12", true, before[12].equals(Seen.group(x)));
    }

    /** Forth and back in turn: what is taken back is always the last that stands. */
    private static void forthAndBack() {
        check.term("the last of these first");
        SampleHouse x = new SampleHouse();
        x.colour(0, 0);
        x.colour(1, 0);
        x.back();
        x.colour(2, 1);
        check.due("back", true, x.back());
        check.due("0 has its colour still", 0, x.node(0, 0));
        check.due("1 has none, nor has 2", 2 * NONE, x.node(1, 0) + x.node(2, 0));
        check.due("back", true, x.back());
        check.due("0 has none", NONE, x.node(0, 0));
        check.due("back", false, x.back());
    }

    private static void madeStaysCounted() {
        check.term("all of the group and of its views is as ahead of it (QUERIES and POLLS made stay counted).");
        SampleHouse x = busy();
        x.query(0, 8);
        x.run(60, 4);
        x.poll(0, 2, 8);
        x.polls(60, 4);
        int queries = x.count(QUERIES_MADE);
        int polls = x.count(POLLS_MADE);
        int[] each = {x.node(0, 7), x.node(1, 7), x.node(2, 7), x.node(3, 7)};
        check.due("some are made", true, queries > 1 && polls > 1 && each[0] > 0);
        for (int i = 0; i < 8; i++) {
            check.due("back", true, x.back());
            check.due("count(12)", queries, x.count(QUERIES_MADE));
            check.due("count(13)", polls, x.count(POLLS_MADE));
            for (int node = 0; node < 4; node++) {
                check.due("node(" + node + ", 7)", each[node], x.node(node, 7));
            }
        }
        check.due("count(6)", 15, x.count(6));
        check.due("not POLLED", 0, x.view(0, 2, 1));
        x.query(0, 8);
        check.due("no COLOUR, no QUERY", queries, x.count(QUERIES_MADE));
    }

    private static void leaveNone() {
        check.term("entry(), group() leave none that can be.");
        SampleHouse x = busy();
        check.due("entry", 4, x.entry(7, NONE, NONE));
        check.due("count(16)", 0, x.count(KEPT));
        check.still("back", x, 0, () -> x.back() ? 1 : 0);
        x.colour(0, 1);
        check.due("one again", 1, x.count(KEPT));
        check.due("group", true, x.group(4, 1, 1, 2));
        check.due("count(16)", 0, x.count(KEPT));
        check.still("back", x, 0, () -> x.back() ? 1 : 0);
    }

    private static void refusedLeaveAll() {
        check.term("if not refused");
        SampleHouse x = busy();
        check.still("query", x, NONE, () -> x.query(0, 1));
        check.still("query", x, NONE, () -> x.query(3, 1));
        check.still("run", x, NONE, () -> x.run(301, 1));
        check.still("colour", x, 0, () -> x.colour(0, 2) ? 1 : 0);
        check.still("kind", x, NONE, () -> x.kind(0, 5));
        check.still("link", x, 0, () -> x.link(0, 1, true) ? 1 : 0);
        check.still("poll", x, NONE, () -> x.poll(3, 0, 1));
        check.still("polls", x, NONE, () -> x.polls(101, 1));
        check.still("group", x, 0, () -> x.group(4, 1, 1, 16) ? 1 : 0);
        check.still("entry", x, NONE, () -> x.entry(0, 0, 0));
        check.still("protocol", x, NONE, () -> x.protocol(3));
        check.still("early", x, NONE, () -> x.early(3));
        check.promise(26, "BACK: true; false: none can be.");
        for (int left = 3; left >= 0; left--) {
            check.due("back", true, x.back());
            check.due("count(16)", left, x.count(KEPT));
        }
        check.still("none can be", x, 0, () -> x.back() ? 1 : 0);
    }

    /** What is not refused can be taken back, though it changed nothing. */
    private static void nothingDone() {
        check.term("if not refused, is taken back");
        SampleHouse x = new SampleHouse();
        check.still("back", x, 0, () -> x.back() ? 1 : 0);
        x.run(300, 1);
        x.polls(100, 1);
        x.kind(0, 0);
        x.colour(0, NONE);
        check.due("count(16)", 4, x.count(KEPT));
        x.protocol(2);
        x.early(3);
        check.due("of these none can be taken back", 4, x.count(KEPT));
        for (int i = 0; i < 4; i++) {
            check.due("back", true, x.back());
        }
        check.still("back", x, 0, () -> x.back() ? 1 : 0);
        check.due("PROTOCOL, EARLY", 2 * 10 + 3, x.count(5) * 10 + x.count(4));
    }

    private static void splitSets() {
        check.term("SPLIT SETS: of which two HONEST NODES have ACCEPTED unlike ENTRIES.");
        SampleHouse x = new SampleHouse();
        x.group(4, 1, 1, 1);
        x.kind(3, 2);
        for (int i = 0; i < 4; i++) {
            x.entry(i < 2 ? 0 : 7, NONE, NONE);
        }
        check.due("none is ACCEPTED", 0, x.count(10));
        x.poll(0, 0, 8);
        x.poll(2, 0, 8);
        check.due("two alike, one open", 0, x.count(10));
        check.due("poll", 2, x.poll(1, 1, 8));
        check.due("SET 0", 1, x.count(10));
        x.poll(1, 2, 8);
        check.due("poll", 2, x.poll(2, 3, 8));
        check.due("SETS 0 and 7", 129, x.count(10));
        x.kind(1, 4);
        check.due("a liar is none of two", 0, x.count(10));
        x.back();
        x.kind(2, 1);
        check.due("0 and 1 are left", 1, x.count(10));
    }

    private static void widest() {
        check.term("WIDEST: the most ENTRIES none of which is an ANCESTOR of another one.");
        SampleHouse free = new SampleHouse();
        check.due("no ENTRIES", 0, free.count(11));
        SampleHouse line = new SampleHouse();
        SampleHouse fan = new SampleHouse();
        SampleHouse pairs = new SampleHouse();
        for (int i = 0; i < 16; i++) {
            free.entry(i % 8, NONE, NONE);
            line.entry(i % 8, i - 1, NONE);
            fan.entry(i % 8, i == 0 ? NONE : 0, NONE);
            pairs.entry(i % 8, i < 2 ? NONE : i / 2 * 2 - 2, i < 2 ? NONE : i / 2 * 2 - 1);
            check.due("free", i + 1, free.count(11));
            check.due("in a line", 1, line.count(11));
            check.due("all below the first", Math.max(i, 1), fan.count(11));
            check.due("two below two", Math.min(i + 1, 2), pairs.count(11));
        }
    }

    private static void decidedUnlike() {
        check.promise(27, "14: 1, if two HONEST ones are DECIDED unlike");
        SampleHouse x = new SampleHouse();
        x.group(3, 1, 1, 1);
        x.colour(0, 0);
        x.colour(1, 1);
        x.colour(2, 1);
        check.due("count(14)", 0, x.count(14));
        x.query(1, 1);
        check.due("one is DECIDED", 0, x.count(14));
        x.query(0, 4);
        check.due("two are, unlike", 1, x.count(14));
        check.due("count(7)", 3, x.count(7));
        x.kind(1, 1);
        check.due("one of them lies", 0, x.count(14));
        check.due("but is DECIDED", 3, x.count(7));
        x.query(2, 1);
        check.due("two are, alike", 0, x.count(14));
        check.due("count(7)", 7, x.count(7));
        x.kind(1, 0);
        check.due("HONEST again", 1, x.count(14));
    }

    private static void bits() {
        check.promise(27, "6: HONEST ones, as bits, 7: DECIDED ones, as bits, 8: HONEST ones of COLOUR 1, as bits");
        for (int n = 2; n <= 8; n++) {
            SampleHouse x = new SampleHouse();
            x.group(n, 1, 1, 1);
            check.due("count(6)", (1 << n) - 1, x.count(6));
            for (int i = 0; i < n; i++) {
                x.colour(i, 1);
            }
            check.due("count(8)", (1 << n) - 1, x.count(8));
            for (int i = 0; i < n; i++) {
                check.due("count(7)", (1 << i) - 1, x.count(7));
                x.query(i, i == 0 ? 2 : 1);
            }
            check.due("count(7)", (1 << n) - 1, x.count(7));
            for (int i = 0; i < n; i++) {
                x.kind(i, 1 + i % 4);
                check.due("count(6)", (1 << n) - (2 << i), x.count(6));
                check.due("count(8)", (1 << n) - (2 << i), x.count(8));
            }
            check.due("count(7)", (1 << n) - 1, x.count(7));
        }
    }

    private static void pairs() {
        check.promise(27, "15: pairs that are not LINKED");
        for (int n = 2; n <= 8; n++) {
            SampleHouse x = new SampleHouse();
            x.group(n, 1, 1, 1);
            int pairs = 0;
            for (int i = 0; i < n; i++) {
                for (int j = 0; j < i; j++) {
                    check.due("count(15)", pairs, x.count(15));
                    check.due("link", true, x.link(i, j, false));
                    pairs++;
                }
            }
            check.due("all of them", n * (n - 1) / 2, x.count(15));
            check.due("link", true, x.link(0, n - 1, true));
            check.due("but one", pairs - 1, x.count(15));
        }
    }

    private static void numbers() {
        check.promise(27, "What 0: NODES, 1: SAMPLE, 2: ALPHA, 3: BETA, 4: EARLY, 5: PROTOCOL, 6: HONEST ones");
        SampleHouse x = new SampleHouse();
        x.group(8, 7, 6, 5);
        x.early(4);
        x.protocol(0);
        int[] want = {8, 7, 6, 5, 4, 0, 255};
        for (int what = 0; what < want.length; what++) {
            check.due("count(" + what + ")", want[what], x.count(what));
        }
        check.promise(27, "9: ENTRIES, 10: SPLIT SETS, as bits, 11: WIDEST, 12: QUERIES made, 13: POLLS made");
        SampleHouse y = busy();
        for (int i = 0; i < 4; i++) {
            check.due("count(9)", 4 + i, y.count(9));
            y.entry(i, NONE, NONE);
            check.due("count(12)", i, y.count(QUERIES_MADE));
            check.due("query", true, y.query(i % 2, 4) >= 0);
            check.due("count(13)", i, y.count(POLLS_MADE));
            check.due("poll", true, y.poll(i % 3, i, 8) >= 0);
        }
        check.promise(27, "16: what can be taken BACK.");
        check.due("a QUERY and a POLL", 2, y.count(KEPT));
    }

    private static void others() {
        check.promise(27, "NONE for another what.");
        SampleHouse x = busy();
        for (int what : new int[] {LOW, -2, -1, 17, 18, 32, FAR}) {
            check.still("count(" + what + ")", x, NONE, () -> x.count(what));
        }
    }

    public static void main(String[] args) {
        eachAlone();
        lastFirst();
        forthAndBack();
        madeStaysCounted();
        leaveNone();
        refusedLeaveAll();
        nothingDone();
        splitSets();
        widest();
        decidedUnlike();
        bits();
        pairs();
        numbers();
        others();
        check.promised(26, 27);
        check.end("EdgesBackTest");
    }
}
