/** Promises 18 to 25 and part 3 of the terms, but for BACK: each sentence that names a boundary has a test of its own. */
public final class EdgesEntriesTest {
    private static final int NONE = SampleHouse.NONE;
    private static final int OTHERS = -2;
    private static final int NO = 1;
    private static final int YES = 2;
    private static final int FAR = Integer.MAX_VALUE;
    private static final int LOW = Integer.MIN_VALUE;
    private static Check check = new Check();

    private static SampleHouse made(int nodes, int sample, int alpha, int beta, int early) {
        SampleHouse x = new SampleHouse();
        check.due("group", true, x.group(nodes, sample, alpha, beta));
        check.due("early", true, x.early(early) > 0);
        return x;
    }

    /** Two nodes, of which the second will lie. */
    private static SampleHouse two(int beta, int early) {
        return made(2, 1, 1, beta, early);
    }

    /** Each a SET and its PARENTS, numbered on. */
    private static void entries(SampleHouse x, int[]... told) {
        for (int[] e : told) {
            int number = x.count(9);
            check.due("entry(" + e[0] + ", ..)", number, x.entry(e[0], e[1], e[2]));
        }
    }

    private static int[] alone(int set) {
        return new int[] {set, NONE, NONE};
    }

    private static int[] below(int set, int parent) {
        return new int[] {set, parent, NONE};
    }

    /** A poll of 0, to which 1 says so. */
    private static void poll(SampleHouse x, int entry, int says, int want) {
        x.kind(1, says);
        check.due("poll(0, " + entry + ", 2) of kind " + says, want, x.poll(0, entry, 2));
    }

    private static void view(SampleHouse x, int node, int entry, int... want) {
        for (int what = 0; what < want.length; what++) {
            check.due("view(" + node + ", " + entry + ", " + what + ")", want[what], x.view(node, entry, what));
        }
    }

    private static void set(SampleHouse x, int node, int set, int... want) {
        for (int what = 0; what < want.length; what++) {
            check.due("set(" + node + ", " + set + ", " + what + ")", want[what], x.set(node, set, what));
        }
    }

    private static void of(SampleHouse x, int entry, int... want) {
        for (int what = 0; what < want.length; what++) {
            check.due("of(" + entry + ", " + what + ")", want[what], x.of(entry, what));
        }
    }

    private static void noEntry(SampleHouse x, int set, int one, int other) {
        String call = "entry(" + set + ", " + one + ", " + other + ")";
        check.still(call, x, NONE, () -> x.entry(set, one, other));
    }

    private static void sixteen() {
        check.term("ENTRIES, 16 at most, numbered as told, each of a SET (0 to 7)");
        SampleHouse x = new SampleHouse();
        for (int i = 0; i < 16; i++) {
            for (int set : new int[] {LOW, -1, 8, FAR}) {
                noEntry(x, set, NONE, NONE);
            }
            entries(x, alone(i % 8));
            of(x, i, i % 8);
        }
        for (int set = 0; set < 8; set++) {
            noEntry(x, set, NONE, NONE);
            noEntry(x, set, 0, 15);
        }
        check.due("count(9)", 16, x.count(9));
    }

    private static void parents() {
        check.term("with two PARENTS at most, told ahead.");
        SampleHouse x = new SampleHouse();
        for (int parent : new int[] {LOW, -2, 0, 1, 16, FAR}) {
            noEntry(x, 0, parent, NONE);
            noEntry(x, 0, NONE, parent);
        }
        entries(x, alone(0), below(0, 0), new int[] {0, NONE, 1}, new int[] {0, 2, 0}, new int[] {0, 0, 3});
        check.promise(22, "1, 2: PARENTS, as told (NONE)");
        of(x, 0, 0, NONE, NONE);
        of(x, 1, 0, 0, NONE);
        of(x, 2, 0, NONE, 1);
        of(x, 3, 0, 2, 0);
        of(x, 4, 0, 0, 3);
        check.term("with two PARENTS at most, told ahead.");
        for (int parent : new int[] {LOW, -2, 5, 6, 16, 32, FAR}) {
            noEntry(x, 0, parent, NONE);
            noEntry(x, 0, 4, parent);
            noEntry(x, 0, parent, 4);
            noEntry(x, 0, NONE, parent);
        }
        check.promise(18, "An ENTRY (PARENTS NONE: none): its number; NONE: others (both alike, too), 16 there are.");
        for (int parent = 0; parent < 5; parent++) {
            noEntry(x, 0, parent, parent);
        }
        for (int number = 5; number < 16; number++) {
            entries(x, new int[] {7, number - 1, number - 2});
        }
        noEntry(x, 7, 15, 14);
        noEntry(x, 0, NONE, NONE);
    }

    private static void lines() {
        check.term("ANCESTORS: PARENTS, and theirs. PROGENY: those of which it is an ANCESTOR.");
        SampleHouse x = new SampleHouse();
        entries(x, alone(0));
        for (int i = 1; i < 16; i++) {
            entries(x, below(i % 8, i - 1));
        }
        for (int i = 0; i < 16; i++) {
            check.due("of(" + i + ", 3)", (1 << i) - 1, x.of(i, 3));
            check.due("of(" + i + ", 4)", 0xFFFF & ~((2 << i) - 1), x.of(i, 4));
        }
        SampleHouse y = new SampleHouse();
        entries(y, alone(0), alone(1), new int[] {2, 0, 1}, alone(3), new int[] {4, 2, 3}, below(5, 1));
        int[] ancestors = {0, 0, 0b11, 0, 0b1111, 0b10};
        int[] progeny = {0b10100, 0b110100, 0b10000, 0b10000, 0, 0};
        for (int i = 0; i < 6; i++) {
            check.due("of(" + i + ", 3)", ancestors[i], y.of(i, 3));
            check.due("of(" + i + ", 4)", progeny[i], y.of(i, 4));
        }
    }

    private static void deep() {
        check.term("DEEP of an ENTRY: 0 without PARENTS, else 1 more than the deepest of these.");
        SampleHouse x = new SampleHouse();
        entries(x, alone(0), alone(0), below(0, 1), new int[] {0, 0, 2}, new int[] {0, 3, 0}, new int[] {0, NONE, 4});
        int[] deep = {0, 0, 1, 2, 3, 4};
        for (int i = 0; i < deep.length; i++) {
            check.due("of(" + i + ", 5)", deep[i], x.of(i, 5));
        }
        SampleHouse y = new SampleHouse();
        entries(y, alone(0));
        for (int i = 1; i < 16; i++) {
            entries(y, below(0, i - 1));
        }
        check.due("of(15, 5)", 15, y.of(15, 5));
    }

    private static void viewAtFirst() {
        check.term("a CHIT (0, 1; 0 at first), whether it was POLLED, whether it is ACCEPTED, REJECTED; of each SET PREFERRED (its first ENTRY), LAST (none at first), a COUNT (0).");
        for (int n = 2; n <= 8; n++) {
            SampleHouse x = made(n, 1, 1, 1, 1);
            for (int s = 0; s < 8; s++) {
                set(x, n - 1, s, NONE, NONE, 0, NONE);
            }
            for (int s = 0; s < 8; s++) {
                entries(x, alone(s), alone(s));
            }
            for (int node = 0; node < n; node++) {
                for (int s = 0; s < 8; s++) {
                    set(x, node, s, 2 * s, NONE, 0, NONE);
                    view(x, node, 2 * s, 0, 0, 0, 1, 0);
                    view(x, node, 2 * s + 1, 0, 0, 0, 0, 0);
                }
            }
        }
        SampleHouse y = made(3, 1, 1, 1, 1);
        y.kind(2, 1);
        entries(y, alone(4), alone(4));
        y.kind(2, 0);
        set(y, 2, 4, 0, NONE, 0, NONE);
    }

    /** 3 is below 1 and 2, which are below 0: its CHIT counts once in each of these. */
    private static void confidence() {
        check.term("CONF of an ENTRY: CHITS of it and its PROGENY, together.");
        SampleHouse x = two(15, 15);
        entries(x, alone(0), below(1, 0), below(2, 0), new int[] {3, 1, 2}, alone(4));
        poll(x, 3, YES, 1);
        int[][] conf = {{1, 1, 1, 1, 0}, {2, 2, 1, 1, 0}, {3, 2, 1, 1, 0}, {3, 2, 1, 1, 0}, {3, 2, 1, 1, 1}};
        for (int i = 0; i < conf.length; i++) {
            if (i > 0) {
                poll(x, new int[] {3, 1, 0, 2, 4}[i], i == 3 ? NO : YES, i == 3 ? 0 : 1);
            }
            for (int e = 0; e < 5; e++) {
                check.due("view(0, " + e + ", 2)", conf[i][e], x.view(0, e, 2));
            }
        }
        x.kind(1, 0);
        for (int e = 0; e < 5; e++) {
            check.due("in another view", 0, x.view(1, e, 2));
        }
    }

    private static void strong() {
        check.term("STRONG: it and all ANCESTORS are PREFERRED of their SETS.");
        SampleHouse x = two(15, 15);
        entries(x, alone(0), alone(0), below(1, 0), below(2, 2), below(1, 1), below(3, 4), new int[] {4, 3, 5}, below(0, 0));
        int[] strong = {1, 0, 1, 1, 0, 0, 0, 0};
        for (int e = 0; e < 8; e++) {
            check.due("view(0, " + e + ", 3)", strong[e], x.view(0, e, 3));
        }
        poll(x, 5, YES, 1);
        int[] behind = {0, 1, 0, 0, 1, 1, 0, 0};
        for (int e = 0; e < 8; e++) {
            check.due("view(0, " + e + ", 3)", behind[e], x.view(0, e, 3));
        }
    }

    private static void onceAlone() {
        check.term("A POLL by an HONEST NODE of an ENTRY that it has not POLLED, with a SAMPLE of k others");
        SampleHouse x = two(15, 15);
        entries(x, alone(0), alone(1));
        poll(x, 0, YES, 1);
        poll(x, 1, NO, 0);
        for (int e = 0; e < 2; e++) {
            int entry = e;
            view(x, 0, e, 1 - e, 1);
            check.still("POLLED", x, NONE, () -> x.poll(0, entry, 2));
            check.still("POLLED", x, NONE, () -> x.yes(0, entry, 2));
        }
        check.still("a liar", x, NONE, () -> x.poll(1, 0, 1));
        check.still("a liar", x, NONE, () -> x.yes(1, 0, 1));
        x.kind(1, 0);
        view(x, 1, 0, 0, 0);
        check.due("another one's first", 1, x.poll(1, 0, 1));
    }

    private static void samples() {
        check.promise(19, "NONE: others, it can't be, not k others.");
        for (int n = 2; n <= 8; n++) {
            for (int k = 1; k < n; k++) {
                SampleHouse x = made(n, k, k, 1, 1);
                entries(x, alone(0));
                for (int node = 0; node < n; node++) {
                    for (int bits = -512; bits < 512; bits++) {
                        boolean fits = bits >= 0 && bits < 1 << n && Integer.bitCount(bits) == k && (bits >> node & 1) == 0;
                        check.due("yes(" + node + ", 0, " + bits + ")", fits ? k : NONE, x.yes(node, 0, bits));
                    }
                }
            }
        }
        SampleHouse x = made(4, 2, 2, 3, 2);
        check.still("no ENTRY", x, NONE, () -> x.poll(0, 0, 6));
        entries(x, alone(0), alone(1));
        for (int bits : new int[] {0, 1, 2, 3, 4, 14, 15, 16, 18, 22, 1 << 8, 1 << 31, LOW | 2, LOW | 6, -1, FAR}) {
            check.still("poll(0, 0, " + bits + ")", x, NONE, () -> x.poll(0, 0, bits));
        }
        for (int node : new int[] {LOW, -1, 4, 8, 32, FAR}) {
            check.still("poll(" + node + ", 0, 6)", x, NONE, () -> x.poll(node, 0, 6));
            check.still("yes(" + node + ", 0, 6)", x, NONE, () -> x.yes(node, 0, 6));
        }
        for (int entry : new int[] {LOW, -1, 2, 15, 16, 31, 32, FAR}) {
            check.still("poll(0, " + entry + ", 6)", x, NONE, () -> x.poll(0, entry, 6));
            check.still("yes(0, " + entry + ", 6)", x, NONE, () -> x.yes(0, entry, 6));
        }
    }

    /** All say so of a strong ENTRY, and of one that is not. */
    private static void sayings() {
        check.term("HONEST ones say yes, if it is STRONG in their view; liars of KIND 1 no, 2 yes, 3 yes, if it is not STRONG in that of the asking one, 4 nothing; those that are not LINKED to it nothing.");
        int[] strong = {3, 2, 3, 2, 2};
        int[] weak = {0, 0, 1, 1, 0};
        for (int kind = 0; kind <= 4; kind++) {
            SampleHouse x = made(4, 3, 2, 15, 15);
            entries(x, alone(0), alone(0));
            x.kind(1, kind);
            check.still("yes(0, 0, 14) of kind " + kind, x, strong[kind], () -> x.yes(0, 0, 14));
            check.still("yes(0, 1, 14) of kind " + kind, x, weak[kind], () -> x.yes(0, 1, 14));
            x.link(0, 1, false);
            check.due("yes(0, 0, 14) not linked to kind " + kind, 2, x.yes(0, 0, 14));
            check.due("yes(0, 1, 14) not linked to kind " + kind, 0, x.yes(0, 1, 14));
            check.due("yes(2, 0, 11) linked", strong[kind], x.yes(2, 0, 11));
        }
    }

    /** For 0 it is 1 that is STRONG, for 2 it is 0; 1 lies. */
    private static void whoseView() {
        check.term("3 yes, if it is not STRONG in that of the asking one");
        SampleHouse x = made(3, 1, 1, 15, 15);
        entries(x, alone(0), alone(0));
        poll(x, 1, YES, 1);
        x.kind(1, 3);
        check.due("the liar to 0, of 0", 1, x.yes(0, 0, 2));
        check.due("the liar to 2, of 0", 0, x.yes(2, 0, 2));
        check.due("the liar to 2, of 1", 1, x.yes(2, 1, 2));
        check.due("2 to 0, of 0", 1, x.yes(0, 0, 4));
        check.due("0 to 2, of 0", 0, x.yes(2, 0, 1));
        check.due("0 to 2, of 1", 1, x.yes(2, 1, 1));
    }

    private static void alphaYes() {
        check.term("Do ALPHA say yes: its CHIT is 1;");
        for (int yes = 0; yes <= 7; yes++) {
            SampleHouse x = made(8, 7, 4, 15, 15);
            entries(x, alone(0));
            for (int i = 1; i <= 7; i++) {
                x.kind(i, i <= yes ? YES : NO);
            }
            check.due("yes", yes, x.yes(0, 0, 0xFE));
            check.due("poll of " + yes, yes >= 4 ? 1 : 0, x.poll(0, 0, 0xFE));
            view(x, 0, 0, yes >= 4 ? 1 : 0, 1, yes >= 4 ? 1 : 0, 1, 0);
        }
    }

    /** A line in one SET: the last by numbers is LAST. */
    private static void byNumbers() {
        check.term("then for it and each ANCESTOR, by numbers: if its SET has no ACCEPTED ENTRY");
        SampleHouse x = two(2, 2);
        entries(x, alone(0), below(0, 0), below(0, 1));
        poll(x, 2, YES, 1);
        set(x, 0, 0, 0, 2, 1, NONE);
        poll(x, 1, YES, 1);
        set(x, 0, 0, 0, 1, 1, NONE);
        poll(x, 0, YES, 1);
        set(x, 0, 0, 0, 0, 1, NONE);
    }

    private static void aboveAlone() {
        check.term("is its CONF above that of the one PREFERRED, it is PREFERRED;");
        SampleHouse x = two(15, 15);
        entries(x, alone(0), alone(0), below(1, 1), alone(0), below(2, 3));
        poll(x, 0, YES, 1);
        poll(x, 1, YES, 1);
        set(x, 0, 0, 0, 1, 1);
        poll(x, 2, YES, 1);
        set(x, 0, 0, 1, 1, 2);
        poll(x, 3, YES, 1);
        poll(x, 4, YES, 1);
        set(x, 0, 0, 1, 3, 2);
        SampleHouse y = two(15, 15);
        entries(y, alone(0), alone(0));
        poll(y, 1, YES, 1);
        set(y, 0, 0, 1, 1, 1);
        poll(y, 0, YES, 1);
        set(y, 0, 0, 1, 0, 1);
    }

    private static void counts() {
        check.term("is it LAST of its SET, COUNT is 1 more, else it is that, COUNT is 1.");
        SampleHouse x = two(15, 15);
        entries(x, alone(0), alone(0), below(1, 0), below(2, 0), below(3, 1), below(4, 0));
        poll(x, 2, YES, 1);
        set(x, 0, 0, 0, 0, 1);
        poll(x, 3, YES, 1);
        set(x, 0, 0, 0, 0, 2);
        poll(x, 4, YES, 1);
        set(x, 0, 0, 0, 1, 1);
        set(x, 0, 1, 2, 2, 1);
        poll(x, 5, YES, 1);
        set(x, 0, 0, 0, 0, 1);
    }

    private static void no() {
        check.term("Else for it and each ANCESTOR COUNT of its SET is 0 (if the SET has no ACCEPTED one).");
        SampleHouse x = two(15, 15);
        entries(x, alone(0), below(1, 0), below(2, 1), alone(3), below(4, 2), below(1, 2));
        poll(x, 4, YES, 1);
        poll(x, 3, YES, 1);
        poll(x, 2, NO, 0);
        set(x, 0, 0, 0, 0, 0, NONE);
        set(x, 0, 1, 1, 1, 0, NONE);
        set(x, 0, 2, 2, 2, 0, NONE);
        set(x, 0, 3, 3, 3, 1, NONE);
        set(x, 0, 4, 4, 4, 1, NONE);
        view(x, 0, 2, 0, 1, 1, 1, 0);
        poll(x, 1, YES, 1);
        set(x, 0, 0, 0, 0, 1, NONE);
        set(x, 0, 1, 1, 1, 1, NONE);
        set(x, 0, 2, 2, 2, 0, NONE);
    }

    /** A SET with an ACCEPTED one is as it is for ever; a CHIT lies all the same. */
    private static void acceptedStays() {
        check.term("(if the SET has no ACCEPTED one)");
        SampleHouse x = two(1, 1);
        entries(x, alone(0), alone(0), below(1, 0), below(2, 1), below(3, 1), below(1, 0));
        poll(x, 0, YES, 2);
        set(x, 0, 0, 0, 0, 1, 0);
        poll(x, 1, NO, 0);
        set(x, 0, 0, 0, 0, 1, 0);
        poll(x, 3, YES, 2);
        poll(x, 4, YES, 2);
        set(x, 0, 0, 0, 0, 1, 0);
        view(x, 0, 1, 0, 1, 2, 0, 2);
        view(x, 0, 0, 1, 1, 1, 1, 1);
        view(x, 0, 3, 1, 1, 1, 0, 1);
        poll(x, 2, NO, 0);
        set(x, 0, 0, 0, 0, 1, 0);
        set(x, 0, 1, 2, NONE, 0, NONE);
        poll(x, 5, YES, 2);
        set(x, 0, 1, 5, 5, 1, 5);
    }

    /** 14 times it is not, the 15th time it is: by its progeny, one behind another. */
    private static void betaAtLeast() {
        check.term("it is ACCEPTED, if COUNT is BETA at least");
        for (int beta : new int[] {1, 2, 14}) {
            SampleHouse x = two(beta, beta);
            entries(x, alone(0), alone(0));
            for (int i = 2; i < 16; i++) {
                entries(x, below(i % 7 + 1, 0));
            }
            for (int i = 1; i < beta; i++) {
                poll(x, i + 1, YES, 1);
                set(x, 0, 0, 0, 0, i, NONE);
            }
            poll(x, beta == 1 ? 0 : beta + 1, YES, 2);
            set(x, 0, 0, 0, 0, beta, 0);
            view(x, 0, 1, 0, 0, 0, 0, 2);
        }
        SampleHouse y = two(15, 1);
        entries(y, alone(0), alone(0));
        for (int i = 2; i < 16; i++) {
            entries(y, below(i % 7 + 1, 0));
            poll(y, i, YES, 1);
        }
        set(y, 0, 0, 0, 0, 14, NONE);
        poll(y, 0, YES, 2);
        set(y, 0, 0, 0, 0, 15, 0);
    }

    /** It counts above BETA ahead of being PREFERRED, and is ACCEPTED as soon as it is. */
    private static void aboveBeta() {
        check.term("and it is LAST and PREFERRED: it is ACCEPTED, if COUNT is BETA at least");
        SampleHouse x = two(2, 2);
        entries(x, alone(0), alone(0), below(1, 0), below(1, 0), below(1, 0), below(2, 1), below(2, 1), below(2, 1));
        poll(x, 2, YES, 1);
        poll(x, 0, NO, 0);
        poll(x, 3, YES, 1);
        poll(x, 4, NO, 0);
        set(x, 0, 0, 0, 0, 0, NONE);
        poll(x, 5, YES, 1);
        poll(x, 6, YES, 1);
        set(x, 0, 0, 0, 1, 2, NONE);
        poll(x, 7, YES, 2);
        set(x, 0, 0, 1, 1, 3, 1);
        of(x, 0, 0, NONE, NONE, 0, 0b11100, 0, 0, 1);
    }

    /** PREFERRED, but another one of its line is LAST. */
    private static void lastAlone() {
        check.term("and it is LAST and PREFERRED: it is ACCEPTED");
        SampleHouse x = two(1, 1);
        entries(x, alone(0), below(0, 0));
        poll(x, 1, YES, 1);
        set(x, 0, 0, 0, 1, 1, NONE);
        poll(x, 0, YES, 2);
        set(x, 0, 0, 0, 0, 1, 0);
    }

    private static void earlyAtLeast() {
        check.term("or if it is alone in its SET, its PARENTS are all ACCEPTED, and COUNT is EARLY at least;");
        SampleHouse x = two(15, 3);
        entries(x, alone(0), below(1, 0), below(1, 0), below(1, 0));
        poll(x, 1, YES, 1);
        poll(x, 2, YES, 1);
        set(x, 0, 0, 0, 0, 2, NONE);
        poll(x, 3, YES, 2);
        set(x, 0, 0, 0, 0, 3, 0);
        SampleHouse y = two(15, 3);
        entries(y, alone(0), below(1, 0), below(1, 0), below(1, 0));
        poll(y, 1, YES, 1);
        poll(y, 2, YES, 1);
        y.early(1);
        set(y, 0, 0, 0, 0, 2, NONE);
        poll(y, 3, YES, 2);
        set(y, 0, 0, 0, 0, 3, 0);
        SampleHouse z = two(15, 2);
        entries(z, alone(0), below(1, 0), below(1, 0), below(1, 0));
        poll(z, 1, YES, 1);
        entries(z, alone(0));
        poll(z, 2, YES, 1);
        poll(z, 3, YES, 1);
        set(z, 0, 0, 0, 0, 3, NONE);
    }

    /** 0 has another one beside it, and waits for BETA 4; 2 is alone below it, and counts above EARLY meanwhile. */
    private static void earlyBehindParents() {
        check.term("its PARENTS are all ACCEPTED, and COUNT is EARLY at least;");
        SampleHouse x = two(4, 2);
        entries(x, alone(0), alone(0), below(1, 0), below(2, 2), below(2, 2), below(3, 0), below(3, 0));
        poll(x, 3, YES, 1);
        poll(x, 2, YES, 1);
        set(x, 0, 1, 2, 2, 2, NONE);
        poll(x, 5, YES, 1);
        poll(x, 6, YES, 2);
        set(x, 0, 0, 0, 0, 4, 0);
        set(x, 0, 1, 2, 2, 2, NONE);
        poll(x, 4, YES, 2);
        set(x, 0, 1, 2, 2, 3, 2);
    }

    private static void allParents() {
        check.term("its PARENTS are all ACCEPTED");
        for (int second = 0; second < 2; second++) {
            SampleHouse x = two(3, 1);
            // 0 is alone, 1 is not and waits for BETA; the parents of 3 are both, in either order.
            entries(x, alone(0), alone(1), alone(1), new int[] {2, second, 1 - second}, below(3, 3), below(4, 1));
            poll(x, 5, YES, 1);
            poll(x, 3, YES, 2);
            view(x, 0, 0, 0, 0, 1, 1, 1);
            view(x, 0, 3, 1, 1, 1, 1, 0);
            poll(x, 4, YES, 2);
            view(x, 0, 1, 0, 0, 3, 1, 1);
            set(x, 0, 2, 3, 3, 2, 3);
            set(x, 0, 3, 4, 4, 1, 4);
        }
        // Without PARENTS none is to wait for, though 0 is open.
        SampleHouse z = two(15, 1);
        entries(z, alone(0), alone(0), alone(1), below(2, 2));
        poll(z, 2, YES, 2);
        poll(z, 3, YES, 2);
        view(z, 0, 0, 0, 0, 0, 1, 0);
        // By numbers: the parent is ACCEPTED ahead of its child in one poll.
        SampleHouse y = two(15, 1);
        entries(y, alone(0), below(1, 0), below(2, 1), new int[] {3, 2, 0});
        poll(y, 3, YES, 2);
        for (int e = 0; e < 4; e++) {
            view(y, 0, e, e == 3 ? 1 : 0, e == 3 ? 1 : 0, 1, 1, 1);
        }
    }

    private static void rejected() {
        check.term("all others of the SET are REJECTED (also those that come later).");
        SampleHouse x = two(1, 1);
        entries(x, alone(0), alone(0), alone(1));
        poll(x, 1, YES, 2);
        entries(x, alone(0), below(0, 1), alone(1));
        int[] standing = {2, 1, 0, 2, 2, 0};
        for (int e = 0; e < 6; e++) {
            check.due("view(0, " + e + ", 4)", standing[e], x.view(0, e, 4));
            check.due("of(" + e + ", 6)", standing[e] == 1 ? 1 : 0, x.of(e, 6));
            check.due("of(" + e + ", 7)", standing[e] == 2 ? 1 : 0, x.of(e, 7));
        }
        set(x, 0, 0, 1, 1, 1, 1);
        x.kind(1, 0);
        for (int e = 0; e < 6; e++) {
            check.due("for the other node", 0, x.view(1, e, 4));
        }
    }

    private static void pollTells() {
        check.promise(19, "0 no, 1 yes, 2 yes, and one was ACCEPTED by it");
        SampleHouse x = two(2, 1);
        entries(x, alone(0), alone(0), below(1, 0), alone(2));
        poll(x, 3, NO, 0);
        poll(x, 0, YES, 1);
        poll(x, 1, YES, 1);
        poll(x, 2, YES, 1);
        check.due("count(13)", 4, x.count(13));
        SampleHouse y = two(2, 1);
        entries(y, alone(0), below(1, 0), below(1, 0));
        // Not the polled one itself, but its parent is ACCEPTED.
        poll(y, 1, YES, 2);
        view(y, 0, 1, 1, 1, 1, 1, 0);
        poll(y, 2, YES, 1);
        check.promise(20, "How many would say yes; NONE likewise.");
        SampleHouse z = made(4, 3, 2, 3, 2);
        entries(z, alone(0));
        check.still("yes", z, 3, () -> z.yes(0, 0, 14));
        z.kind(1, 1);
        z.kind(2, 1);
        z.kind(3, 1);
        check.still("none", z, 0, () -> z.yes(0, 0, 14));
        check.still("not k", z, NONE, () -> z.yes(0, 0, 6));
    }

    private static SampleHouse drawnGroup(int kinds) {
        SampleHouse x = made(5, 3, 2, 3, 2);
        entries(x, alone(0), alone(0), below(1, 0), below(2, 1), new int[] {1, 2, 3});
        for (int i = 0; i < 5; i++) {
            x.kind(i, (kinds >> i & 1) == 1 ? YES : 0);
        }
        return x;
    }

    /** The same by single polls. */
    private static int drawn(SampleHouse y, int n, int seed) {
        Draws draws = new Draws(seed);
        int had = 0;
        for (int i = 0; i < n; i++) {
            int node = draws.of(5);
            java.util.List<Integer> open = new java.util.ArrayList<>();
            for (int e = 0; y.node(node, 6) == 0 && e < 5; e++) {
                if (y.view(node, e, 1) == 0) {
                    open.add(e);
                }
            }
            if (!open.isEmpty()) {
                int entry = open.get(draws.of(open.size()));
                had += y.poll(node, entry, draws.sample(5, node, 3)) > 0 ? 1 : 0;
            }
        }
        return had;
    }

    private static void pollsDrawn() {
        check.promise(21, "n (1 to 100) POLLS drawn: each a draw of NODES; if it is HONEST and there are ENTRIES that it has not POLLED: one of these, by numbers, by a draw of how many, and its SAMPLE");
        for (int kinds : new int[] {0, 2, 9, 30}) {
            for (int seed : new int[] {0, 1, -1, 77, FAR, LOW}) {
                for (int n : new int[] {1, 20, 100}) {
                    SampleHouse x = drawnGroup(kinds);
                    SampleHouse y = drawnGroup(kinds);
                    String call = "polls(" + n + ", " + seed + ") ";
                    check.due(call, drawn(y, n, seed), x.polls(n, seed));
                    check.due(call + "count(13)", y.count(13), x.count(13));
                    for (int node = 0; node < 5; node++) {
                        boolean honest = x.node(node, 6) == 0;
                        check.due(call + "view", true, !honest || Seen.view(x, node).equals(Seen.view(y, node)));
                    }
                }
            }
        }
    }

    private static void pollsTell() {
        check.promise(21, "how many had yes; NONE: others.");
        SampleHouse x = made(4, 3, 3, 3, 2);
        for (int n : new int[] {LOW, -1, 0, 101, FAR}) {
            check.still("polls(" + n + ", 1)", x, NONE, () -> x.polls(n, 1));
        }
        check.due("no ENTRIES", 0, x.polls(100, 1));
        check.due("count(13)", 0, x.count(13));
        entries(x, alone(0), alone(1), alone(2));
        check.due("all have yes", 12, x.polls(100, 1));
        check.due("count(13)", 12, x.count(13));
        check.due("all are POLLED", 0, x.polls(100, 1));
        SampleHouse y = made(4, 3, 3, 3, 2);
        entries(y, alone(0), alone(1), alone(2));
        for (int i = 0; i < 4; i++) {
            y.kind(i, YES);
        }
        check.due("none is HONEST", 0, y.polls(100, 1));
        check.due("count(13)", 0, y.count(13));
        y.kind(0, 0);
        y.kind(1, NO);
        check.due("none has yes", 0, y.polls(100, 1));
        check.due("count(13)", 3, y.count(13));
    }

    private static void ofTells() {
        check.promise(22, "5: DEEP, 6: by how many NODES it is ACCEPTED, 7: REJECTED; -2: others.");
        SampleHouse x = made(3, 2, 2, 1, 1);
        check.still("no ENTRY", x, OTHERS, () -> x.of(0, 0));
        entries(x, alone(7), alone(7));
        for (int node = 0; node < 3; node++) {
            of(x, 0, 7, NONE, NONE, 0, 0, 0, node, 0);
            of(x, 1, 7, NONE, NONE, 0, 0, 0, 0, node);
            check.due("poll", 2, x.poll(node, 0, 7 & ~(1 << node)));
        }
        of(x, 0, 7, NONE, NONE, 0, 0, 0, 3, 0);
        of(x, 1, 7, NONE, NONE, 0, 0, 0, 0, 3);
        for (int entry : new int[] {LOW, -1, 2, 15, 16, 32, FAR}) {
            for (int what = 0; what < 8; what++) {
                int asked = what;
                check.still("of(" + entry + ", " + what + ")", x, OTHERS, () -> x.of(entry, asked));
            }
        }
        for (int what : new int[] {LOW, -2, -1, 8, FAR}) {
            check.still("of(0, " + what + ")", x, OTHERS, () -> x.of(0, what));
        }
    }

    private static void throwsOfView() {
        check.promise(23, "4: 0 open, 1 ACCEPTED, 2 REJECTED; NoSuchElementException: others, a liar.");
        SampleHouse x = made(3, 1, 1, 1, 1);
        check.none("no ENTRY", () -> x.view(0, 0, 0));
        entries(x, alone(0), alone(0));
        for (int what = 0; what < 5; what++) {
            int asked = what;
            for (int node : new int[] {LOW, -1, 3, 8, FAR}) {
                check.none("view(" + node + ", 0, " + what + ")", () -> x.view(node, 0, asked));
            }
            for (int entry : new int[] {LOW, -1, 2, 15, 16, 32, FAR}) {
                check.none("view(0, " + entry + ", " + what + ")", () -> x.view(0, entry, asked));
            }
        }
        for (int what : new int[] {LOW, -1, 5, FAR}) {
            check.none("view(0, 0, " + what + ")", () -> x.view(0, 0, what));
        }
        String before = Seen.of(x);
        for (int kind = 1; kind <= 4; kind++) {
            x.kind(1, kind);
            check.none("a liar", () -> x.view(1, 0, 0));
            check.none("a liar", () -> x.view(1, 1, 4));
            x.back();
        }
        check.due("nothing is another", true, before.equals(Seen.of(x)));
        view(x, 1, 1, 0, 0, 0, 0, 0);
    }

    private static void throwsOfSet() {
        check.promise(24, "3: the ACCEPTED one (NONE); NoSuchElementException: others, a liar.");
        SampleHouse x = made(3, 1, 1, 1, 1);
        entries(x, alone(7), alone(7));
        for (int what = 0; what < 4; what++) {
            int asked = what;
            for (int node : new int[] {LOW, -1, 3, 8, FAR}) {
                check.none("set(" + node + ", 0, " + what + ")", () -> x.set(node, 0, asked));
            }
            for (int set : new int[] {LOW, -1, 8, FAR}) {
                check.none("set(0, " + set + ", " + what + ")", () -> x.set(0, set, asked));
            }
        }
        for (int what : new int[] {LOW, -1, 4, FAR}) {
            check.none("set(0, 7, " + what + ")", () -> x.set(0, 7, what));
        }
        for (int kind = 1; kind <= 4; kind++) {
            x.kind(1, kind);
            check.none("a liar", () -> x.set(1, 7, 0));
            check.none("a liar", () -> x.set(1, 0, 3));
        }
        check.promise(24, "what 0: PREFERRED (NONE: it has no ENTRY), 1: LAST (NONE), 2: COUNT");
        set(x, 0, 0, NONE, NONE, 0, NONE);
        set(x, 0, 7, 0, NONE, 0, NONE);
    }

    private static void alike() {
        check.promise(25, "How many ENTRIES two HONEST NODES see alike (open, ACCEPTED, REJECTED); NONE: others, liars.");
        SampleHouse x = made(3, 1, 1, 1, 1);
        check.due("no ENTRIES", 0, x.alike(0, 1));
        entries(x, alone(0), alone(0), alone(0), alone(1));
        check.due("all are open", 4, x.alike(0, 1));
        check.due("poll", 2, x.poll(0, 0, 2));
        check.due("one is open for both", 1, x.alike(0, 1));
        check.due("one is open for both", 1, x.alike(1, 0));
        x.kind(2, YES);
        check.due("poll", 2, x.poll(1, 1, 4));
        check.due("one is REJECTED by both, one is open", 2, x.alike(0, 1));
        check.due("poll", 2, x.poll(1, 3, 4));
        check.due("one is REJECTED by both", 1, x.alike(0, 1));
        for (int node : new int[] {LOW, -1, 3, 8, FAR}) {
            check.still("alike(0, " + node + ")", x, NONE, () -> x.alike(0, node));
            check.still("alike(" + node + ", 0)", x, NONE, () -> x.alike(node, 0));
        }
        for (int kind = 1; kind <= 4; kind++) {
            x.kind(2, kind);
            check.still("a liar", x, NONE, () -> x.alike(0, 2));
            check.still("a liar", x, NONE, () -> x.alike(2, 0));
        }
    }

    public static void main(String[] args) {
        sixteen();
        parents();
        lines();
        deep();
        viewAtFirst();
        confidence();
        strong();
        onceAlone();
        samples();
        sayings();
        whoseView();
        alphaYes();
        byNumbers();
        aboveAlone();
        counts();
        no();
        acceptedStays();
        betaAtLeast();
        aboveBeta();
        lastAlone();
        earlyAtLeast();
        earlyBehindParents();
        allParents();
        rejected();
        pollTells();
        pollsDrawn();
        pollsTell();
        ofTells();
        throwsOfView();
        throwsOfSet();
        alike();
        check.promised(18, 25);
        check.end("EdgesEntriesTest");
    }
}
