/** Promises 18 to 25: entries, polls and views. */
public final class EntriesTest {
    private static final int NONE = SampleHouse.NONE;
    private static final int FAR = Integer.MAX_VALUE;
    private static final int LOW = Integer.MIN_VALUE;
    private static Check check = new Check();

    /** So many nodes that ask one other each, and accept behind BETA polls. */
    private static SampleHouse made(int nodes, int sample, int alpha, int beta, int early) {
        SampleHouse x = new SampleHouse();
        check.due("group", true, x.group(nodes, sample, alpha, beta));
        check.due("early", true, x.early(early) > 0);
        return x;
    }

    private static void view(SampleHouse x, int node, int entry, int... want) {
        for (int what = 0; what < want.length; what++) {
            check.due("view(" + node + ", " + entry + ", " + what + ")", want[what], x.view(node, entry, what));
        }
    }

    private static void set(SampleHouse x, int node, int set, int... want) {
        for (int what = 0; what < want.length; what++) {
            check.due("set(" + node + ", " + set + ", " + what + ")", want[what], x.set(node, set, what));
        }
    }

    private static void of(SampleHouse x, int entry, int... want) {
        for (int what = 0; what < want.length; what++) {
            check.due("of(" + entry + ", " + what + ")", want[what], x.of(entry, what));
        }
    }

    private static void promise18() {
        SampleHouse x = new SampleHouse();
        int[][] wrong = {{-1, NONE, NONE}, {8, NONE, NONE}, {FAR, NONE, NONE}, {LOW, NONE, NONE}, {0, 0, NONE}, {0, NONE, 0},
            {0, 0, 0}, {0, -2, NONE}, {0, NONE, -2}, {0, FAR, NONE}, {0, NONE, LOW}};
        for (int[] w : wrong) {
            check.due("entry" + java.util.Arrays.toString(w), NONE, x.entry(w[0], w[1], w[2]));
        }
        check.due("count(9)", 0, x.count(9));
        check.due("entry(7, NONE, NONE)", 0, x.entry(7, NONE, NONE));
        check.due("both alike", NONE, x.entry(1, 0, 0));
        check.due("itself", NONE, x.entry(1, 1, NONE));
        check.due("one parent, told behind", 1, x.entry(7, NONE, 0));
        check.due("two parents", 2, x.entry(0, 1, 0));
        check.due("a later one", NONE, x.entry(0, 2, 3));
        for (int i = 3; i < 16; i++) {
            check.due("entry", i, x.entry(i % 8, i - 1, NONE));
        }
        check.due("16 there are", NONE, x.entry(0, NONE, NONE));
        check.due("count(9)", 16, x.count(9));
        of(x, 15, 7, 14, NONE, 0x7FFF, 0, 15, 0, 0);
        of(x, 0, 7, NONE, NONE, 0, 0xFFFE, 0, 0, 0);
    }

    private static void promise22() {
        SampleHouse x = new SampleHouse();
        x.entry(3, NONE, NONE);
        x.entry(4, NONE, NONE);
        x.entry(3, NONE, 0);
        x.entry(5, 2, 1);
        x.entry(5, NONE, NONE);
        of(x, 0, 3, NONE, NONE, 0, 12, 0, 0, 0);
        of(x, 1, 4, NONE, NONE, 0, 8, 0, 0, 0);
        of(x, 2, 3, NONE, 0, 1, 8, 1, 0, 0);
        of(x, 3, 5, 2, 1, 7, 0, 2, 0, 0);
        of(x, 4, 5, NONE, NONE, 0, 0, 0, 0, 0);
        for (int[] w : new int[][] {{-1, 0}, {5, 0}, {16, 0}, {FAR, 0}, {LOW, 0}, {0, -1}, {0, 8}, {0, FAR}, {0, LOW}}) {
            check.due("of(" + w[0] + ", " + w[1] + ")", -2, x.of(w[0], w[1]));
        }
        check.due("count(11)", 3, x.count(11));
    }

    private static void promise19Refuses() {
        SampleHouse x = made(4, 2, 2, 3, 2);
        check.due("no entry yet", NONE, x.poll(0, 0, 6));
        x.entry(0, NONE, NONE);
        for (int sample : new int[] {0, 1, 3, 2, 14, 18, 32, -1, LOW, FAR, LOW | 6}) {
            check.due("poll(0, 0, " + sample + ")", NONE, x.poll(0, 0, sample));
            check.due("yes(0, 0, " + sample + ")", NONE, x.yes(0, 0, sample));
        }
        for (int[] w : new int[][] {{-1, 0}, {4, 0}, {FAR, 0}, {LOW, 0}, {0, -1}, {0, 1}, {0, 16}, {0, 32}, {0, FAR}, {0, LOW}}) {
            check.due("poll(" + w[0] + ", " + w[1] + ", 6)", NONE, x.poll(w[0], w[1], 6));
            check.due("yes(" + w[0] + ", " + w[1] + ", 6)", NONE, x.yes(w[0], w[1], 6));
        }
        x.kind(0, 2);
        check.due("a liar", NONE, x.poll(0, 0, 6));
        check.due("a liar", NONE, x.yes(0, 0, 6));
        x.kind(0, 0);
        check.due("count(13)", 0, x.count(13));
        check.due("count(16)", 2, x.count(16));
        check.due("yes(0, 0, 6)", 2, x.yes(0, 0, 6));
        check.due("poll(0, 0, 6)", 1, x.poll(0, 0, 6));
        check.due("it has polled it", NONE, x.poll(0, 0, 10));
        check.due("it has polled it", NONE, x.yes(0, 0, 10));
        check.due("another has not", 1, x.poll(1, 0, 12));
        check.due("count(13)", 2, x.count(13));
    }

    /** Liars, links and strength tell who says yes. */
    private static void promise20() {
        SampleHouse x = made(5, 4, 3, 3, 2);
        x.entry(0, NONE, NONE);
        x.entry(0, NONE, NONE);
        int all = 30;
        check.due("all", 4, x.yes(0, 0, all));
        check.due("none: 0 came first", 0, x.yes(0, 1, all));
        x.kind(1, 1);
        check.due("kind 1 says no", 3, x.yes(0, 0, all));
        x.kind(1, 2);
        check.due("kind 2 says yes", 1, x.yes(0, 1, all));
        x.kind(1, 3);
        check.due("kind 3 says no to what is strong", 3, x.yes(0, 0, all));
        check.due("kind 3 says yes to what is not", 1, x.yes(0, 1, all));
        x.kind(1, 4);
        check.due("kind 4 says nothing", 3, x.yes(0, 0, all));
        check.due("kind 4 says nothing", 0, x.yes(0, 1, all));
        x.kind(1, 2);
        x.link(0, 1, false);
        x.link(2, 0, false);
        check.due("1 and 2 are not linked", 2, x.yes(0, 0, all));
        check.due("no poll was made", 0, x.count(13));
        view(x, 0, 0, 0, 0, 0, 1, 0);
    }

    /** An entry is strong only with all its ancestors; conf counts all progeny. */
    private static void strength() {
        SampleHouse x = made(3, 1, 1, 15, 15);
        x.entry(0, NONE, NONE);
        x.entry(0, NONE, NONE);
        x.entry(1, 1, NONE);
        x.entry(2, 2, NONE);
        view(x, 0, 3, 0, 0, 0, 0, 0);
        view(x, 0, 2, 0, 0, 0, 0, 0);
        x.kind(2, 2);
        check.due("a liar says yes", 1, x.poll(0, 3, 4));
        // Its chit lies on 3, counts for 2 and 1 as well, and 1 has more than 0.
        view(x, 0, 3, 1, 1, 1, 1, 0);
        view(x, 0, 2, 0, 0, 1, 1, 0);
        view(x, 0, 1, 0, 0, 1, 1, 0);
        view(x, 0, 0, 0, 0, 0, 0, 0);
        set(x, 0, 0, 1, 1, 1, NONE);
        set(x, 0, 1, 2, 2, 1, NONE);
        set(x, 0, 2, 3, 3, 1, NONE);
        set(x, 1, 0, 0, NONE, 0, NONE);
        check.due("as much is not above", 1, x.poll(0, 0, 4));
        set(x, 0, 0, 1, 0, 1, NONE);
        view(x, 0, 0, 1, 1, 1, 0, 0);
        check.due("1 says no", 0, x.poll(0, 1, 2));
        set(x, 0, 0, 1, 0, 0, NONE);
        check.due("2 says yes", 1, x.poll(0, 2, 4));
        set(x, 0, 0, 1, 1, 1, NONE);
        set(x, 0, 1, 2, 2, 2, NONE);
        view(x, 0, 1, 0, 1, 2, 1, 0);
        view(x, 0, 2, 1, 1, 2, 1, 0);
        check.due("a view of its own", 0, x.view(1, 3, 2));
    }

    /** Ancestor and progeny in one set: LAST goes from one to the other in each poll, so that neither is counted twice. */
    private static void lineInOneSet() {
        SampleHouse x = made(2, 1, 1, 2, 1);
        x.entry(0, NONE, NONE);
        x.entry(0, 0, NONE);
        x.entry(0, 1, NONE);
        x.kind(1, 2);
        check.due("poll 2", 1, x.poll(0, 2, 2));
        // 0, 1, 2 have a conf of 1 each: 0 stays preferred.
        set(x, 0, 0, 0, 2, 1, NONE);
        check.due("poll 0", 1, x.poll(0, 0, 2));
        set(x, 0, 0, 0, 0, 1, NONE);
        check.due("poll 1", 1, x.poll(0, 1, 2));
        set(x, 0, 0, 0, 1, 1, NONE);
        x.entry(0, NONE, NONE);
        check.due("poll 3", 1, x.poll(0, 3, 2));
        set(x, 0, 0, 0, 3, 1, NONE);
    }

    /** BETA alone decides where there is a conflict; EARLY where there is none, and only behind the parents. */
    private static void acceptance() {
        SampleHouse x = made(2, 1, 1, 3, 2);
        x.entry(0, NONE, NONE);
        x.entry(1, 0, NONE);
        x.entry(2, 1, NONE);
        x.entry(3, 2, NONE);
        check.due("poll 3", 1, x.poll(0, 3, 2));
        for (int e = 0; e < 4; e++) {
            set(x, 0, e, e, e, 1, NONE);
        }
        check.due("poll 1: 0 and 1 twice, both alone", 2, x.poll(0, 1, 2));
        set(x, 0, 0, 0, 0, 2, 0);
        set(x, 0, 1, 1, 1, 2, 1);
        set(x, 0, 2, 2, 2, 1, NONE);
        view(x, 0, 0, 0, 0, 2, 1, 1);
        check.due("poll 2: 0 and 1 count no more", 2, x.poll(0, 2, 2));
        set(x, 0, 0, 0, 0, 2, 0);
        set(x, 0, 2, 2, 2, 2, 2);
        set(x, 0, 3, 3, 3, 1, NONE);
        of(x, 2, 2, 1, NONE, 3, 8, 2, 1, 0);
        check.due("an accepted one can be polled still", 1, x.poll(0, 0, 2));
        set(x, 0, 0, 0, 0, 2, 0);
        view(x, 0, 0, 1, 1, 4, 1, 1);
    }

    private static void earlyWaitsForParents() {
        SampleHouse x = made(2, 1, 1, 3, 1);
        x.entry(0, NONE, NONE);
        x.entry(0, NONE, NONE);
        x.entry(1, 0, NONE);
        x.entry(2, 2, NONE);
        x.entry(3, 2, 3);
        check.due("0 is not alone: its progeny waits", 1, x.poll(0, 4, 2));
        check.due("0 is not alone: its progeny waits", 1, x.poll(0, 3, 2));
        set(x, 0, 0, 0, 0, 2, NONE);
        set(x, 0, 1, 2, 2, 2, NONE);
        set(x, 0, 2, 3, 3, 2, NONE);
        check.due("the third time: 0 and 2 by BETA", 2, x.poll(0, 2, 2));
        set(x, 0, 0, 0, 0, 3, 0);
        set(x, 0, 1, 2, 2, 3, 2);
        set(x, 0, 2, 3, 3, 2, NONE);
        view(x, 0, 1, 0, 0, 0, 0, 2);
        x.entry(4, 4, NONE);
        check.due("3, 4 and 5 by EARLY", 2, x.poll(0, 5, 2));
        set(x, 0, 2, 3, 3, 3, 3);
        set(x, 0, 3, 4, 4, 2, 4);
        set(x, 0, 4, 5, 5, 1, 5);
    }

    /** Both parents are to be accepted. */
    private static void bothParents() {
        SampleHouse x = made(2, 1, 1, 4, 1);
        x.entry(0, NONE, NONE);
        x.entry(1, NONE, NONE);
        x.entry(1, NONE, NONE);
        x.entry(2, 0, 1);
        x.entry(3, 1, 0);
        check.due("0 is accepted, 1 is not", 2, x.poll(0, 3, 2));
        check.due("nor 3", 0, x.view(0, 3, 4));
        check.due("again not", 1, x.poll(0, 4, 2));
        set(x, 0, 0, 0, 0, 1, 0);
        set(x, 0, 1, 1, 1, 2, NONE);
        set(x, 0, 2, 3, 3, 1, NONE);
        set(x, 0, 3, 4, 4, 1, NONE);
        SampleHouse y = made(2, 1, 1, 4, 1);
        y.entry(0, NONE, NONE);
        y.entry(0, NONE, NONE);
        y.entry(1, NONE, NONE);
        y.entry(2, 2, 0);
        check.due("2 is accepted, 0 is not", 2, y.poll(0, 3, 2));
        set(y, 0, 1, 2, 2, 1, 2);
        set(y, 0, 0, 0, 0, 1, NONE);
        set(y, 0, 2, 3, 3, 1, NONE);
    }

    /** One that is LAST, but not PREFERRED, is not accepted however it counts. */
    private static void lastIsNotPreferred() {
        SampleHouse x = made(2, 1, 1, 1, 1);
        x.entry(0, NONE, NONE);
        x.entry(0, NONE, NONE);
        x.entry(1, 0, NONE);
        x.kind(1, 1);
        check.due("no", 0, x.poll(0, 2, 2));
        view(x, 0, 2, 0, 1, 0, 1, 0);
        x.kind(1, 2);
        check.due("1 has a chit more than 0", 2, x.poll(0, 1, 2));
        set(x, 0, 0, 1, 1, 1, 1);
        view(x, 0, 0, 0, 0, 0, 0, 2);
        check.due("a rejected one can be polled, has its chit, counts nothing", 1, x.poll(0, 0, 2));
        view(x, 0, 0, 1, 1, 1, 0, 2);
        set(x, 0, 0, 1, 1, 1, 1);
        SampleHouse y = made(2, 1, 1, 1, 1);
        y.entry(0, NONE, NONE);
        y.entry(0, 0, NONE);
        y.kind(1, 2);
        check.due("0 first, so 1 is rejected", 1, y.poll(0, 1, 2));
        set(y, 0, 0, 0, 1, 1, NONE);
        check.due("0 is LAST and PREFERRED", 2, y.poll(0, 0, 2));
        set(y, 0, 0, 0, 0, 1, 0);
    }

    /** Those that come later to a set with an accepted one are rejected, only where it is accepted. */
    private static void laterOnes() {
        SampleHouse x = made(3, 1, 1, 1, 1);
        x.entry(0, NONE, NONE);
        check.due("poll", 2, x.poll(0, 0, 2));
        x.entry(0, NONE, NONE);
        view(x, 0, 1, 0, 0, 0, 0, 2);
        view(x, 1, 1, 0, 0, 0, 0, 0);
        of(x, 0, 0, NONE, NONE, 0, 0, 0, 1, 0);
        of(x, 1, 0, NONE, NONE, 0, 0, 0, 0, 1);
        x.kind(2, 2);
        check.due("1 accepts the other", 2, x.poll(1, 1, 4));
        of(x, 0, 0, NONE, NONE, 0, 0, 0, 1, 1);
        of(x, 1, 0, NONE, NONE, 0, 0, 0, 1, 1);
        check.due("count(10)", 1, x.count(10));
        check.due("alike(0, 1)", 0, x.alike(0, 1));
        x.kind(1, 3);
        check.due("a liar keeps its view", 1, x.of(1, 6));
        check.due("split of honest ones alone", 0, x.count(10));
        x.kind(1, 0);
        view(x, 1, 1, 1, 1, 1, 1, 1);
        check.due("count(10)", 1, x.count(10));
    }

    /** A node that lied when an entry came sees it all the same, when it is honest again. */
    private static void liarsSeeEntries() {
        SampleHouse x = made(3, 1, 1, 1, 1);
        x.kind(0, 4);
        x.entry(6, NONE, NONE);
        x.entry(6, NONE, NONE);
        x.kind(0, 0);
        set(x, 0, 6, 0, NONE, 0, NONE);
        view(x, 0, 0, 0, 0, 0, 1, 0);
    }

    private static void promise21() {
        SampleHouse x = made(4, 2, 2, 3, 2);
        for (int n : new int[] {0, 101, -1, FAR, LOW}) {
            check.due("polls(" + n + ", 1)", NONE, x.polls(n, 1));
        }
        check.due("count(16)", 0, x.count(16));
        check.due("no entries", 0, x.polls(100, 1));
        check.due("no entries", 0, x.polls(1, -5));
        check.due("count(16)", 2, x.count(16));
        x.entry(0, NONE, NONE);
        x.entry(0, NONE, NONE);
        x.entry(1, 0, NONE);
        x.kind(3, 2);
        SampleHouse y = made(4, 2, 2, 3, 2);
        y.entry(0, NONE, NONE);
        y.entry(0, NONE, NONE);
        y.entry(1, 0, NONE);
        y.kind(3, 2);
        check.due("polls(1, 77)", drawnPolls(y, 1, 77), x.polls(1, 77));
        check.due("count(13)", y.count(13), x.count(13));
        int first = drawnPolls(y, 5, 9);
        check.due("polls(5, 9)", first, x.polls(5, 9));
        check.due("count(13)", y.count(13), x.count(13));
        int second = drawnPolls(y, 80, 8);
        check.due("polls(80, 8)", second, x.polls(80, 8));
        check.due("some had yes", true, first + second > 0);
        check.due("count(13)", 9, x.count(13));
        check.due("count(13)", 9, y.count(13));
        for (int node = 0; node < 3; node++) {
            for (int e = 0; e < 3; e++) {
                view(x, node, e, y.view(node, e, 0), 1, y.view(node, e, 2), y.view(node, e, 3), y.view(node, e, 4));
            }
        }
        check.due("nothing is left", 0, x.polls(100, 9));
    }

    /** The same by single polls; of 4 nodes the fourth lies, samples of 2. */
    private static int drawnPolls(SampleHouse y, int n, int first) {
        Draws draws = new Draws(first);
        int had = 0;
        for (int i = 0; i < n; i++) {
            int node = draws.of(4);
            java.util.ArrayList<Integer> open = new java.util.ArrayList<>();
            for (int e = 0; node != 3 && e < 3; e++) {
                if (y.view(node, e, 1) == 0) {
                    open.add(e);
                }
            }
            if (!open.isEmpty()) {
                int entry = open.get(draws.of(open.size()));
                had += y.poll(node, entry, draws.sample(4, node, 2)) > 0 ? 1 : 0;
            }
        }
        return had;
    }

    private static void promises23And24() {
        SampleHouse x = made(3, 1, 1, 1, 1);
        check.none("view without entries", () -> x.view(0, 0, 0));
        set(x, 0, 0, NONE, NONE, 0, NONE);
        x.entry(0, NONE, NONE);
        int[] nodes = {-1, 3, 8, FAR, LOW};
        for (int node : nodes) {
            check.none("view(" + node + ", 0, 0)", () -> x.view(node, 0, 0));
            check.none("set(" + node + ", 0, 0)", () -> x.set(node, 0, 0));
        }
        for (int entry : new int[] {-1, 1, 16, 32, FAR, LOW}) {
            check.none("view(0, " + entry + ", 0)", () -> x.view(0, entry, 0));
        }
        for (int set : new int[] {-1, 8, FAR, LOW}) {
            check.none("set(0, " + set + ", 0)", () -> x.set(0, set, 0));
        }
        for (int what : new int[] {-1, 5, FAR, LOW}) {
            check.none("view(0, 0, " + what + ")", () -> x.view(0, 0, what));
        }
        for (int what : new int[] {-1, 4, FAR, LOW}) {
            check.none("set(0, 0, " + what + ")", () -> x.set(0, 0, what));
        }
        x.kind(1, 2);
        check.none("view of a liar", () -> x.view(1, 0, 0));
        check.none("set of a liar", () -> x.set(1, 0, 0));
        view(x, 0, 0, 0, 0, 0, 1, 0);
    }

    private static void promise25() {
        SampleHouse x = made(3, 1, 1, 1, 1);
        check.due("no entries", 0, x.alike(0, 1));
        x.entry(0, NONE, NONE);
        x.entry(0, NONE, NONE);
        x.entry(1, NONE, NONE);
        check.due("all open", 3, x.alike(0, 1));
        check.due("accepts 0, rejects 1", 1, x.poll(0, 0, 2) - 1);
        check.due("alike(0, 1)", 1, x.alike(0, 1));
        check.due("alike(1, 0)", 1, x.alike(1, 0));
        check.due("alike(1, 2)", 3, x.alike(1, 2));
        check.due("with itself", 3, x.alike(0, 0));
        x.poll(1, 0, 4);
        check.due("alike(0, 1)", 3, x.alike(0, 1));
        for (int[] w : new int[][] {{-1, 0}, {0, -1}, {3, 0}, {0, 3}, {FAR, 0}, {0, LOW}}) {
            check.due("alike(" + w[0] + ", " + w[1] + ")", NONE, x.alike(w[0], w[1]));
        }
        x.kind(2, 1);
        check.due("a liar", NONE, x.alike(0, 2));
        check.due("a liar", NONE, x.alike(2, 0));
    }

    public static void main(String[] args) {
        promise18();
        promise19Refuses();
        promise20();
        strength();
        lineInOneSet();
        acceptance();
        earlyWaitsForParents();
        bothParents();
        lastIsNotPreferred();
        laterOnes();
        liarsSeeEntries();
        promise21();
        promise22();
        promises23And24();
        promise25();
        check.end("EntriesTest");
    }
}
