/** Promises 26 and 27: what is taken back, and all counts. */
public final class BackTest {
    private static final int NONE = SampleHouse.NONE;
    private static final int FAR = Integer.MAX_VALUE;
    private static final int LOW = Integer.MIN_VALUE;
    private static Check check = new Check();

    private static void counts(SampleHouse x, int... whatAndWant) {
        for (int i = 0; i + 1 < whatAndWant.length; i += 2) {
            check.due("count(" + whatAndWant[i] + ")", whatAndWant[i + 1], x.count(whatAndWant[i]));
        }
    }

    /** Each of the seven calls is taken back, the last first. */
    private static void eachCall() {
        SampleHouse x = new SampleHouse();
        x.group(4, 1, 1, 2);
        x.entry(0, NONE, NONE);
        x.entry(0, NONE, NONE);
        x.entry(1, 1, NONE);
        check.due("nothing is done yet", false, x.back());
        String[] before = new String[8];
        for (int i = 0; i < 8; i++) {
            before[i] = Seen.group(x);
            switch (i) {
                case 0: check.due("colour", true, x.colour(0, 1)); break;
                case 1: check.due("kind", 0, x.kind(3, 2)); break;
                case 2: check.due("query", 0, x.query(0, 8)); break;
                case 3: check.due("link", true, x.link(0, 1, false)); break;
                case 4: check.due("poll", 1, x.poll(0, 2, 8)); break;
                case 5: check.due("run", true, x.run(20, 3) >= 0); break;
                case 6: check.due("polls", true, x.polls(20, 3) > 0); break;
                default: check.due("colour", true, x.colour(0, 0)); break;
            }
            check.due("another group behind call " + i, false, Seen.group(x).equals(before[i]));
            counts(x, 16, i + 1);
        }
        int queries = x.count(12);
        int polls = x.count(13);
        for (int i = 7; i >= 0; i--) {
            check.due("back", true, x.back());
            check.due("as ahead of call " + i, true, Seen.group(x).equals(before[i]));
            counts(x, 16, i, 12, queries, 13, polls);
        }
        check.due("back", false, x.back());
        check.due("node(0, 7) stays counted", true, x.node(0, 7) > 0);
    }

    private static void eightAtMost() {
        SampleHouse x = new SampleHouse();
        for (int i = 0; i < 11; i++) {
            x.colour(i % 4, i / 4 % 2);
            counts(x, 16, Math.min(i + 1, 8));
        }
        for (int i = 10; i >= 3; i--) {
            check.due("node", i / 4 % 2, x.node(i % 4, 0));
            check.due("back", true, x.back());
            counts(x, 16, i - 3);
        }
        check.due("back", false, x.back());
        check.due("0 stays", 0, x.node(2, 0));
        check.due("the fourth is taken back", NONE, x.node(3, 0));
        x.colour(3, 1);
        counts(x, 16, 1);
        check.due("back", true, x.back());
        check.due("back", false, x.back());
        check.due("again none", NONE, x.node(3, 0));
    }

    /** What changes nothing but is not refused can be taken back too; what is refused, and what only asks, can't. */
    private static void refusedOnes() {
        SampleHouse x = new SampleHouse();
        x.kind(0, 0);
        x.colour(0, NONE);
        x.run(5, 5);
        x.polls(5, 5);
        counts(x, 16, 4);
        x.kind(0, 9);
        x.kind(4, 0);
        x.colour(0, 2);
        x.run(0, 5);
        x.run(301, 5);
        x.polls(0, 5);
        x.polls(101, 5);
        x.query(0, 6);
        x.poll(0, 0, 6);
        x.link(0, 1, true);
        x.group(9, 1, 1, 1);
        x.entry(9, NONE, NONE);
        x.protocol(0);
        x.early(1);
        x.would(0, 6);
        x.yes(0, 0, 6);
        x.exact(1, 1);
        x.soonest();
        x.chain(1, 1);
        counts(x, 16, 4);
        x.back();
        counts(x, 16, 3, 4, 1, 5, 0);
        check.due("entry", 0, x.entry(0, NONE, NONE));
        counts(x, 16, 0);
        x.colour(0, 1);
        check.due("group", true, x.group(4, 2, 2, 3));
        counts(x, 16, 0);
        check.due("back", false, x.back());
    }

    /** What was counted of a state is not taken for that of another one. */
    private static void askedAnew() {
        SampleHouse x = new SampleHouse();
        x.group(3, 1, 1, 1);
        x.colour(0, 0);
        x.colour(1, 1);
        x.colour(2, 1);
        check.due("soonest", 2, x.soonest());
        check.due("exact(1, 1)", 0, x.exact(1, 1));
        x.query(1, 1);
        check.due("soonest", 1, x.soonest());
        check.due("exact(1, 1)", 1, x.exact(1, 1));
        x.back();
        check.due("soonest", 2, x.soonest());
        check.due("exact(1, 1)", 0, x.exact(1, 1));
    }

    private static void promise27() {
        SampleHouse x = new SampleHouse();
        x.group(5, 3, 2, 1);
        x.early(1);
        x.protocol(2);
        for (int i = 0; i < 5; i++) {
            x.colour(i, i < 3 ? 1 : 0);
        }
        x.kind(2, 1);
        x.kind(4, 1);
        x.link(0, 4, false);
        x.link(3, 1, false);
        counts(x, 0, 5, 1, 3, 2, 2, 3, 1, 4, 1, 5, 2, 6, 11, 7, 0, 8, 3, 12, 0, 14, 0, 15, 2, 16, 8);
        check.due("1 asks 0, 2, 4: 0 wins and is trusted more", 2, x.query(1, 21));
        counts(x, 7, 2, 8, 1, 12, 1, 14, 0);
        check.due("0 asks 1, 2, 3: 0 wins", 2, x.query(0, 14));
        counts(x, 7, 3, 8, 0, 14, 0);
        x.kind(0, 2);
        counts(x, 6, 10, 7, 3);
        for (int what : new int[] {-1, 17, FAR, LOW}) {
            check.due("count(" + what + ")", NONE, x.count(what));
        }
        x.group(2, 1, 1, 1);
        counts(x, 6, 3);
        x.group(8, 1, 1, 1);
        counts(x, 6, 255);
        x.colour(7, 1);
        x.colour(6, 1);
        x.colour(5, 0);
        x.colour(4, 0);
        check.due("query", 2, x.query(7, 64));
        counts(x, 14, 0, 7, 128, 8, 192);
        check.due("query", 2, x.query(5, 16));
        counts(x, 14, 1, 7, 160, 12, 2);
        x.kind(5, 3);
        counts(x, 14, 0, 7, 160, 6, 223);
    }

    private static void splitSetsAndWidest() {
        SampleHouse x = new SampleHouse();
        x.group(3, 1, 1, 1);
        x.kind(2, 2);
        int[][] told = {{0, NONE, NONE}, {0, NONE, NONE}, {7, NONE, NONE}, {7, NONE, NONE}, {1, 0, 2}};
        int[] widest = {1, 2, 3, 4, 4};
        for (int i = 0; i < told.length; i++) {
            check.due("entry", i, x.entry(told[i][0], told[i][1], told[i][2]));
            counts(x, 11, widest[i], 9, i + 1);
        }
        x.poll(0, 0, 4);
        counts(x, 10, 0);
        x.poll(1, 1, 4);
        counts(x, 10, 1);
        x.poll(0, 2, 4);
        x.poll(1, 3, 4);
        counts(x, 10, 129, 13, 4);
        x.back();
        counts(x, 10, 1, 13, 4);
        // A line of three, and two lines that meet in one.
        SampleHouse y = new SampleHouse();
        y.entry(0, NONE, NONE);
        y.entry(0, 0, NONE);
        y.entry(0, 1, NONE);
        counts(y, 11, 1);
        y.entry(0, 0, NONE);
        y.entry(0, 3, NONE);
        counts(y, 11, 2);
        y.entry(0, 4, 2);
        counts(y, 11, 2);
        y.entry(0, 5, NONE);
        y.entry(0, 5, NONE);
        y.entry(0, 5, 4);
        counts(y, 11, 3);
        // To leave one out is better than to take the first that comes: 0 is an ancestor of all others.
        SampleHouse z = new SampleHouse();
        z.entry(0, NONE, NONE);
        for (int i = 1; i < 16; i++) {
            z.entry(i % 8, 0, NONE);
        }
        counts(z, 11, 15);
    }

    public static void main(String[] args) {
        eachCall();
        eightAtMost();
        refusedOnes();
        askedAnew();
        promise27();
        splitSetsAndWidest();
        check.end("BackTest");
    }
}
