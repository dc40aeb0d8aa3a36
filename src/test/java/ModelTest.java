import java.util.Random;

/** Random runs of calls, held against the model: each answer, and ever again all that can be asked. Promises 1 to 27. */
public final class ModelTest {
    private static final int RUNS = 1500;
    private static final int CALLS = 120;

    private final Check check;
    private final Random random;
    private final SampleHouse house = new SampleHouse();
    private final Model model = new Model();
    private final StringBuilder told = new StringBuilder();
    private final int flavour;

    private ModelTest(Check check, long seed) {
        this.check = check;
        this.random = new Random(seed);
        this.flavour = (int) (seed % 3);
        told.append("seed ").append(seed).append(": ");
    }

    private int pick(int from, int to) {
        return from + random.nextInt(to - from + 1);
    }

    /** Mostly from the range, now and then around it or far away. */
    private int near(int from, int to) {
        switch (random.nextInt(24)) {
            case 0: return from - 1;
            case 1: return to + 1;
            case 2: return new int[] {Integer.MIN_VALUE, Integer.MAX_VALUE, -2, 31, 32, 1 << 30}[random.nextInt(6)];
            default: return to < from ? from : pick(from, to);
        }
    }

    private int sample(int node) {
        if (random.nextInt(15) == 0) {
            return random.nextInt(4) == 0 ? random.nextInt() : random.nextInt(256);
        }
        int bits = 0;
        while (Integer.bitCount(bits) < model.k) {
            int i = random.nextInt(model.n);
            bits |= i == node ? 0 : 1 << i;
        }
        return bits;
    }

    private void due(String call, long want, long got) {
        told.append(call).append(' ');
        check.due(told.length() > 3000 ? told.substring(0, 20) + ".. " + told.substring(told.length() - 2900) : told.toString(), want, got);
    }

    private void begin() {
        int nodes = pick(2, 8);
        int sample = pick(1, nodes - 1);
        int alpha = pick(sample / 2 + 1, sample);
        int beta = random.nextInt(4) == 0 ? pick(1, 15) : pick(1, 3);
        group(nodes, sample, alpha, beta);
        protocol(pick(0, 2));
        for (int i = 0; i < nodes; i++) {
            if (random.nextInt(5) > 0) {
                colour(i, random.nextInt(2));
            }
            if (random.nextInt(6) == 0) {
                kind(i, pick(0, 4));
            }
        }
    }

    private void group(int a, int b, int c, int d) {
        due("group(" + a + "," + b + "," + c + "," + d + ")", model.group(a, b, c, d) ? 1 : 0, house.group(a, b, c, d) ? 1 : 0);
    }

    private void protocol(int p) {
        due("protocol(" + p + ")", model.protocol(p), house.protocol(p));
    }

    private void colour(int node, int c) {
        due("colour(" + node + "," + c + ")", model.colour(node, c) ? 1 : 0, house.colour(node, c) ? 1 : 0);
    }

    private void kind(int node, int k) {
        due("kind(" + node + "," + k + ")", model.kind(node, k), house.kind(node, k));
    }

    private void someCall() {
        int node = near(0, model.n - 1);
        int e = near(0, model.entries.size() - 1);
        int s = sample(node);
        int kindOfCall = random.nextInt(flavour == 0 ? 60 : 100);
        if (kindOfCall < 20) {
            due("query(" + node + "," + s + ")", model.query(node, s), house.query(node, s));
        } else if (kindOfCall < 26) {
            due("would(" + node + "," + s + ")", model.would(node, s), house.would(node, s));
        } else if (kindOfCall < 30) {
            colour(node, near(-1, 1));
        } else if (kindOfCall < 33) {
            kind(node, random.nextInt(2) == 0 ? 0 : near(0, 4));
        } else if (kindOfCall < 37) {
            int other = near(0, model.n - 1);
            boolean on = random.nextInt(3) > 0;
            due("link(" + node + "," + other + "," + on + ")", model.link(node, other, on) ? 1 : 0, house.link(node, other, on) ? 1 : 0);
        } else if (kindOfCall < 40) {
            int n = random.nextInt(8) == 0 ? near(1, 300) : pick(1, 12);
            int seed = random.nextInt();
            due("run(" + n + "," + seed + ")", model.run(n, seed), house.run(n, seed));
        } else if (kindOfCall < 43) {
            due("back()", model.back() ? 1 : 0, house.back() ? 1 : 0);
        } else if (kindOfCall < 45) {
            protocol(near(0, 2));
        } else if (kindOfCall < 47) {
            int n = near(1, model.beta);
            due("early(" + n + ")", model.early(n), house.early(n));
        } else if (kindOfCall < 49) {
            int what = near(0, 7);
            due("node(" + node + "," + what + ")", model.node(node, what), house.node(node, what));
        } else if (kindOfCall < 56) {
            int what = near(0, 16);
            due("count(" + what + ")", model.count(what), house.count(what));
        } else if (kindOfCall < 58) {
            odds();
        } else if (kindOfCall < 60) {
            soonest();
        } else {
            entryCall(node, e, s);
        }
    }

    private void entryCall(int node, int e, int s) {
        int kindOfCall = random.nextInt(60);
        if (kindOfCall < 8) {
            int set = near(0, random.nextInt(3) == 0 ? 7 : 2);
            int one = random.nextInt(3) == 0 ? -1 : near(0, model.entries.size() - 1);
            int other = random.nextInt(2) == 0 ? -1 : near(0, model.entries.size() - 1);
            due("entry(" + set + "," + one + "," + other + ")", model.entry(set, one, other), house.entry(set, one, other));
        } else if (kindOfCall < 40) {
            due("poll(" + node + "," + e + "," + s + ")", model.poll(node, e, s), house.poll(node, e, s));
        } else if (kindOfCall < 44) {
            due("yes(" + node + "," + e + "," + s + ")", model.yes(node, e, s), house.yes(node, e, s));
        } else if (kindOfCall < 47) {
            int n = random.nextInt(8) == 0 ? near(1, 100) : pick(1, 12);
            int seed = random.nextInt();
            due("polls(" + n + "," + seed + ")", model.polls(n, seed), house.polls(n, seed));
        } else if (kindOfCall < 50) {
            int what = near(0, 7);
            due("of(" + e + "," + what + ")", model.of(e, what), house.of(e, what));
        } else if (kindOfCall < 54) {
            int what = near(0, 4);
            due("view(" + node + "," + e + "," + what + ")", tried(() -> model.view(node, e, what)), tried(() -> house.view(node, e, what)));
        } else if (kindOfCall < 58) {
            int set = near(0, 7);
            int what = near(0, 3);
            due("set(" + node + "," + set + "," + what + ")", tried(() -> model.set(node, set, what)), tried(() -> house.set(node, set, what)));
        } else {
            int other = near(0, model.n - 1);
            due("alike(" + node + "," + other + ")", model.alike(node, other), house.alike(node, other));
        }
    }

    private static long tried(Check.Call call) {
        try {
            return call.answer();
        } catch (java.util.NoSuchElementException e) {
            return Long.MIN_VALUE;
        }
    }

    /** The model is slow: it is asked for many queries only where few can be unlike. */
    private void odds() {
        int t = random.nextInt(10) == 0 ? near(1, 12) : pick(1, model.n < 5 ? 5 : 3);
        if (random.nextInt(6) > 0 && model.n > 5) {
            t = pick(1, 2);
        }
        int what = near(0, 2);
        due("exact(" + t + "," + what + ")", model.exact(t, what), house.exact(t, what));
        if (random.nextBoolean()) {
            int k = near(0, model.n);
            due("colours(" + t + "," + k + ")", model.colours(t, k), house.colours(t, k));
        } else {
            due("odds(" + t + ")", model.odds(t), house.odds(t));
        }
    }

    private void soonest() {
        due("soonest()", model.soonest(), house.soonest());
        int i = near(0, 4);
        int what = near(0, 1);
        due("way(" + i + "," + what + ")", model.way(i, what), house.way(i, what));
    }

    private void compareAll() {
        for (int what = -1; what <= 17; what++) {
            if (what != 11) {
                due("count(" + what + ")", model.count(what), house.count(what));
            }
        }
        for (int i = 0; i < model.n; i++) {
            int node = i;
            for (int w = 0; w <= 7; w++) {
                int what = w;
                due("node(" + node + "," + what + ")", model.node(node, what), house.node(node, what));
                for (int m = 0; m < model.entries.size() && what < 5; m++) {
                    int e = m;
                    due("view(" + node + "," + e + "," + what + ")", tried(() -> model.view(node, e, what)), tried(() -> house.view(node, e, what)));
                }
                for (int s = 0; s < 8 && what < 4; s++) {
                    int set = s;
                    due("set(" + node + "," + set + "," + what + ")", tried(() -> model.set(node, set, what)), tried(() -> house.set(node, set, what)));
                }
            }
        }
        for (int e = 0; e < model.entries.size(); e++) {
            for (int what = 0; what <= 7; what++) {
                due("of(" + e + "," + what + ")", model.of(e, what), house.of(e, what));
            }
        }
    }

    private void run() {
        if (random.nextInt(10) > 0) {
            begin();
        }
        if (flavour == 2) {
            for (int i = 0; i < 6; i++) {
                entryCall(0, 0, 1);
            }
        }
        for (int i = 0; i < CALLS && !check.isWrong(); i++) {
            someCall();
            if (random.nextInt(30) == 0) {
                int length = told.length();
                compareAll();
                told.setLength(length);
            }
            if (random.nextInt(200) == 0) {
                begin();
            }
        }
    }

    public static void main(String[] args) {
        Check check = new Check();
        int runs = args.length > 0 ? Integer.parseInt(args[0]) : RUNS;
        long from = args.length > 1 ? Long.parseLong(args[1]) : 1;
        for (int run = 0; run < runs && !check.isWrong(); run++) {
            new ModelTest(check, from + run).run();
        }
        check.end("ModelTest");
    }
}
