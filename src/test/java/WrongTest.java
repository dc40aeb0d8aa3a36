import java.util.NoSuchElementException;

/** Wild arguments to every call, in many states: nothing may be thrown but by view() and set(), and every call ends. */
public final class WrongTest {
    private static final int[] WILD = {Integer.MIN_VALUE, Integer.MIN_VALUE | 6, -1 << 16, -33, -32, -9, -8, -3, -2, -1, 0, 1, 2,
        3, 4, 5, 6, 7, 8, 9, 12, 13, 15, 16, 17, 30, 31, 32, 33, 63, 64, 127, 254, 255, 256, 1 << 30, Integer.MAX_VALUE - 1,
        Integer.MAX_VALUE};
    private static Check check = new Check();

    private static SampleHouse state(int number) {
        SampleHouse x = new SampleHouse();
        if (number == 0) {
            return x;
        }
        int nodes = 2 + number % 7;
        int sample = 1 + number % (nodes - 1);
        x.group(nodes, sample, sample / 2 + 1, 1 + number % 15);
        x.protocol(number % 3);
        for (int i = 0; i < nodes; i++) {
            x.colour(i, (i + number) % 3 - 1);
            x.kind(i, (i * number) % 7 == 3 ? number % 5 : 0);
        }
        for (int e = 0; e < 2 * number; e++) {
            x.entry(e % 8, e / 2 - 1, e % 3 == 0 ? -1 : e - 1);
        }
        x.run(300, number);
        x.polls(100, number);
        return x;
    }

    private static void calmOrNone(String call, Check.Call asking) {
        check.calm(call, () -> {
            try {
                return asking.answer();
            } catch (NoSuchElementException e) {
                return SampleHouse.NONE;
            }
        });
    }

    private static void one(SampleHouse x, int a) {
        String s = "(" + a + ")";
        check.calm("protocol" + s, () -> x.protocol(a));
        check.calm("early" + s, () -> x.early(a));
        check.calm("odds" + s, () -> x.odds(a));
        check.calm("count" + s, () -> x.count(a));
        check.calm("soonest()", () -> x.soonest());
    }

    private static void two(SampleHouse x, int a, int b) {
        String s = "(" + a + ", " + b + ")";
        check.calm("kind" + s, () -> x.kind(a, b));
        check.calm("colour" + s, () -> x.colour(a, b) ? 1 : 0);
        check.calm("query" + s, () -> x.query(a, b));
        check.calm("would" + s, () -> x.would(a, b));
        check.calm("run" + s, () -> x.run(a, b));
        check.calm("node" + s, () -> x.node(a, b));
        check.calm("exact" + s, () -> x.exact(a % 4, b));
        check.calm("colours" + s, () -> x.colours(a % 4, b));
        check.calm("exact" + s, () -> x.exact(a, b));
        check.calm("way" + s, () -> x.way(a, b));
        check.calm("chain" + s, () -> x.chain(a, b));
        check.calm("polls" + s, () -> x.polls(a, b));
        check.calm("of" + s, () -> x.of(a, b));
        check.calm("alike" + s, () -> x.alike(a, b));
        check.calm("link" + s, () -> x.link(a, b, false) ? 1 : 0);
        check.calm("link" + s, () -> x.link(a, b, true) ? 1 : 0);
    }

    private static void three(SampleHouse x, int a, int b, int c) {
        String s = "(" + a + ", " + b + ", " + c + ")";
        check.calm("poll" + s, () -> x.poll(a, b, c));
        check.calm("yes" + s, () -> x.yes(a, b, c));
        calmOrNone("view" + s, () -> x.view(a, b, c));
        calmOrNone("set" + s, () -> x.set(a, b, c));
        check.calm("entry" + s, () -> x.entry(a, b, c));
    }

    private static void all(int number) {
        SampleHouse x = state(number);
        for (int a : WILD) {
            one(x, a);
            for (int b : WILD) {
                two(x, a, b);
                for (int c : WILD) {
                    three(x, a, b, c);
                }
            }
            check.calm("back()", () -> x.back() ? 1 : 0);
        }
        SampleHouse y = state(number);
        for (int a : WILD) {
            for (int b : WILD) {
                for (int c : WILD) {
                    check.calm("group(" + a + ", " + b + ", " + c + ", 15)", () -> y.group(a, b, c, 15) ? 1 : 0);
                    check.calm("group(4, " + a + ", " + b + ", " + c + ")", () -> y.group(4, a, b, c) ? 1 : 0);
                }
            }
        }
    }

    public static void main(String[] args) {
        for (int number = 0; number <= 7; number++) {
            all(number);
        }
        check.end("WrongTest");
    }
}
