import java.util.Arrays;
import java.util.NoSuchElementException;

/**
 * Agreement by repeated small samples: colours with counters, confidence, conflict sets in a graph,
 * chits along ancestors, exact odds on small groups. The promises stand in the document.
 */
public final class SampleHouse {
    public static final int NONE = -1;

    private static final int OTHERS = -2;
    private static final int TOO_GREAT = -2;
    private static final int UNKNOWN = -3;

    private static final int MOST_NODES = 8;
    private static final int MOST_SAMPLES = 35;
    private static final int MOST_BETA = 15;
    private static final int MOST_CONFIDENCE = 999;
    private static final int MOST_EXACT = 12;
    private static final int MOST_STATES = 2000;
    private static final int MOST_ENTRIES = 16;
    private static final int MOST_DRAWN_QUERIES = 300;
    private static final int MOST_DRAWN_POLLS = 100;
    private static final int MOST_BACK = 8;
    private static final int SETS = 8;

    private static final int SLUSH = 0;
    private static final int FLAKE = 1;
    private static final int BALL = 2;

    private static final int HONEST = 0;
    private static final int SAYS_0 = 1;
    private static final int SAYS_1 = 2;
    private static final int CONTRARY = 3;
    private static final int SILENT = 4;

    private final Rules rules = new Rules();
    private final Group now = new Group();
    private final Graph graph = new Graph();
    private final Asking asking = new Asking(rules, now);
    private final Polling polling = new Polling(rules, now, graph);
    private final Layers layers = new Layers(rules, asking);
    private final Search search = new Search(rules, asking);
    private final Chain walk = new Chain(rules);
    private final Group[] past = new Group[MOST_BACK];
    private final int[] spare = new int[MOST_NODES];
    private final int[] queriesMade = new int[MOST_NODES];
    private int pollsMade;
    private int kept;
    private int nextKept;
    private int drawn;
    // Tells what was counted and searched that it is of an older group; never 0, which theirs is at first.
    private int version = 1;

    public SampleHouse() {
        for (int i = 0; i < MOST_BACK; i++) {
            past[i] = new Group();
        }
    }

    public boolean group(int nodes, int sample, int alpha, int beta) {
        if (!Rules.fits(nodes, sample, alpha, beta)) {
            return false;
        }
        rules.take(nodes, sample, alpha, beta);
        now.begin();
        graph.clear();
        walk.forget();
        Arrays.fill(queriesMade, 0);
        pollsMade = 0;
        kept = 0;
        version++;
        return true;
    }

    public int protocol(int p) {
        if (p < SLUSH || p > BALL) {
            return NONE;
        }
        int was = rules.protocol;
        rules.protocol = p;
        version++;
        return was;
    }

    public int early(int n) {
        if (n < 1 || n > rules.beta) {
            return NONE;
        }
        int was = rules.early;
        rules.early = n;
        return was;
    }

    public int kind(int node, int kind) {
        if (!rules.isNode(node) || kind < HONEST || kind > SILENT) {
            return NONE;
        }
        keep();
        int was = now.kinds[node];
        now.kinds[node] = kind;
        return was;
    }

    public boolean link(int node, int other, boolean on) {
        if (!rules.isNode(node) || !rules.isNode(other) || node == other || now.isLinked(node, other) == on) {
            return false;
        }
        keep();
        now.links[node] ^= 1 << other;
        now.links[other] ^= 1 << node;
        return true;
    }

    public boolean colour(int node, int colour) {
        if (!rules.isNode(node) || colour < NONE || colour > 1) {
            return false;
        }
        keep();
        now.nodes[node] = Group.withColour(0, colour);
        return true;
    }

    public int query(int node, int sample) {
        if (!canAsk(node, sample)) {
            return NONE;
        }
        keep();
        return ask(node, sample);
    }

    public int would(int node, int sample) {
        if (!canAsk(node, sample)) {
            return NONE;
        }
        System.arraycopy(now.nodes, 0, spare, 0, MOST_NODES);
        asking.settle(spare, node, asking.winner(sample), sample);
        return Asking.change(now.nodes[node], spare[node]);
    }

    public int run(int n, int seed) {
        if (n < 1 || n > MOST_DRAWN_QUERIES) {
            return NONE;
        }
        keep();
        drawn = seed;
        int decided = 0;
        for (int i = 0; i < n; i++) {
            int node = draw(rules.nodes);
            int sample = drawSample(node);
            if (canAsk(node, sample) && ask(node, sample) == 2) {
                decided++;
            }
        }
        return decided;
    }

    public int node(int node, int what) {
        if (!rules.isNode(node)) {
            return OTHERS;
        }
        int packed = now.nodes[node];
        switch (what) {
            case 0: return Group.colourOf(packed);
            case 1: return Group.lastOf(packed);
            case 2: return Group.counterOf(packed);
            case 3: return Group.confidenceOf(packed, 0);
            case 4: return Group.confidenceOf(packed, 1);
            case 5: return Group.isDecided(packed) ? 1 : 0;
            case 6: return now.kinds[node];
            case 7: return queriesMade[node];
            default: return OTHERS;
        }
    }

    public long exact(int t, int what) {
        if (!isTold(t) || what < 0 || what > 2) {
            return NONE;
        }
        long ways = rules.ways(t);
        if (ways == TOO_GREAT || what == 0) {
            return ways;
        }
        if (!layers.reach(t, now.nodes, version)) {
            return UNKNOWN;
        }
        return what == 1 ? layers.splits[t] : layers.agreed[t];
    }

    public long colours(int t, int k) {
        if (!isTold(t) || k < 0 || k > rules.nodes) {
            return NONE;
        }
        if (rules.ways(t) == TOO_GREAT) {
            return TOO_GREAT;
        }
        return layers.reach(t, now.nodes, version) ? layers.ones[t][k] : UNKNOWN;
    }

    public int odds(int t) {
        if (!isTold(t)) {
            return NONE;
        }
        long ways = rules.ways(t);
        if (ways == TOO_GREAT) {
            return TOO_GREAT;
        }
        if (!layers.reach(t, now.nodes, version)) {
            return UNKNOWN;
        }
        return bitsOf((float) layers.splits[t] / (float) ways);
    }

    public int soonest() {
        search.find(now.nodes, version);
        return search.fewest;
    }

    public int way(int i, int what) {
        if (i < 0 || what < 0 || what > 1) {
            return OTHERS;
        }
        search.find(now.nodes, version);
        if (search.fewest == UNKNOWN) {
            return UNKNOWN;
        }
        if (i >= search.fewest) {
            return OTHERS;
        }
        int state = search.behind(i);
        return what == 0 ? search.byNode[state] : search.bySample[state];
    }

    public long chain(int j, int what) {
        if (j < 0 || j > rules.nodes || what < 0 || what > 3) {
            return NONE;
        }
        if (what >= 2 && walk.mayStay(j)) {
            return NONE;
        }
        walk.findAll();
        Fraction found = what < 2 ? walk.odds[j] : walk.time[j];
        if (found.isTooGreat()) {
            return TOO_GREAT;
        }
        return what % 2 == 0 ? found.above : found.below;
    }

    public int entry(int set, int one, int other) {
        if (set < 0 || set >= SETS || !graph.isParent(one) || !graph.isParent(other)) {
            return NONE;
        }
        if (one == other && one != NONE || graph.entries == MOST_ENTRIES) {
            return NONE;
        }
        boolean first = graph.members[set] == 0;
        int entry = graph.add(set, one, other);
        for (int i = 0; first && i < MOST_NODES; i++) {
            now.views[i].put(set, View.PREFERRED, entry);
        }
        kept = 0;
        return entry;
    }

    public int poll(int node, int entry, int sample) {
        if (!canPoll(node, entry, sample)) {
            return NONE;
        }
        keep();
        pollsMade++;
        return polling.hold(node, entry, sample);
    }

    public int yes(int node, int entry, int sample) {
        return canPoll(node, entry, sample) ? polling.sayYes(node, entry, sample) : NONE;
    }

    public int polls(int n, int seed) {
        if (n < 1 || n > MOST_DRAWN_POLLS) {
            return NONE;
        }
        keep();
        drawn = seed;
        int agreed = 0;
        for (int i = 0; i < n; i++) {
            int node = draw(rules.nodes);
            int open = polling.unpolled(node);
            if (open != 0) {
                int entry = bitAt(open, draw(Integer.bitCount(open)));
                pollsMade++;
                agreed += polling.hold(node, entry, drawSample(node)) > 0 ? 1 : 0;
            }
        }
        return agreed;
    }

    public int of(int entry, int what) {
        if (!graph.isEntry(entry)) {
            return OTHERS;
        }
        switch (what) {
            case 0: return graph.setOf[entry];
            case 1: return graph.one[entry];
            case 2: return graph.other[entry];
            case 3: return graph.ancestors[entry];
            case 4: return graph.progeny[entry];
            case 5: return graph.deep[entry];
            case 6: return polling.nodesThatSee(entry, Polling.ACCEPTED);
            case 7: return polling.nodesThatSee(entry, Polling.REJECTED);
            default: return OTHERS;
        }
    }

    public int view(int node, int entry, int what) throws NoSuchElementException {
        if (!isHonest(node) || !graph.isEntry(entry)) {
            throw new NoSuchElementException();
        }
        View view = now.views[node];
        switch (what) {
            case 0: return view.chits >> entry & 1;
            case 1: return view.polled >> entry & 1;
            case 2: return polling.confidence(view, entry);
            case 3: return polling.isStrong(view, entry) ? 1 : 0;
            case 4: return polling.standing(view, entry);
            default: throw new NoSuchElementException();
        }
    }

    public int set(int node, int set, int what) throws NoSuchElementException {
        if (!isHonest(node) || set < 0 || set >= SETS || what < View.PREFERRED || what > View.ACCEPTED) {
            throw new NoSuchElementException();
        }
        return now.views[node].get(set, what);
    }

    public int alike(int node, int other) {
        if (!isHonest(node) || !isHonest(other)) {
            return NONE;
        }
        int same = 0;
        for (int e = 0; e < graph.entries; e++) {
            if (polling.standing(now.views[node], e) == polling.standing(now.views[other], e)) {
                same++;
            }
        }
        return same;
    }

    public boolean back() {
        if (kept == 0) {
            return false;
        }
        kept--;
        nextKept = (nextKept + MOST_BACK - 1) % MOST_BACK;
        now.takeFrom(past[nextKept]);
        version++;
        return true;
    }

    public int count(int what) {
        switch (what) {
            case 0: return rules.nodes;
            case 1: return rules.sample;
            case 2: return rules.alpha;
            case 3: return rules.beta;
            case 4: return rules.early;
            case 5: return rules.protocol;
            case 6: return now.honestBits(rules.nodes);
            case 7: return now.decidedBits(rules.nodes);
            case 8: return asking.honestOnes(now.nodes, 0);
            case 9: return graph.entries;
            case 10: return polling.splitSets();
            case 11: return graph.widest();
            case 12: return allQueries();
            case 13: return pollsMade;
            case 14: return asking.isSplit(now.nodes, 0) ? 1 : 0;
            case 15: return now.unlinkedPairs(rules.nodes);
            case 16: return kept;
            default: return NONE;
        }
    }

    /** Is called ahead of each change that can be taken back. */
    private void keep() {
        past[nextKept].takeFrom(now);
        nextKept = (nextKept + 1) % MOST_BACK;
        kept = Math.min(kept + 1, MOST_BACK);
        version++;
    }

    private boolean isHonest(int node) {
        return rules.isNode(node) && now.kinds[node] == HONEST;
    }

    private boolean canAsk(int node, int sample) {
        return rules.isSample(node, sample) && asking.listen(now.nodes, 0, node);
    }

    /** Only behind canAsk(), which has listened to the others. */
    private int ask(int node, int sample) {
        int before = now.nodes[node];
        asking.settle(now.nodes, node, asking.winner(sample), sample);
        queriesMade[node]++;
        return Asking.change(before, now.nodes[node]);
    }

    private boolean canPoll(int node, int entry, int sample) {
        return rules.isSample(node, sample) && graph.isEntry(entry) && (polling.unpolled(node) >> entry & 1) == 1;
    }

    private int allQueries() {
        int all = 0;
        for (int i = 0; i < rules.nodes; i++) {
            all += queriesMade[i];
        }
        return all;
    }

    private int draw(int m) {
        drawn = drawn * 1103515245 + 12345;
        return m < 1 ? 0 : (drawn >>> 8) % m;
    }

    private int drawSample(int node) {
        int left = rules.allNodes() & ~(1 << node);
        int sample = 0;
        for (int i = 0; i < rules.sample; i++) {
            int taken = 1 << bitAt(left, draw(rules.nodes - 1 - i));
            sample |= taken;
            left &= ~taken;
        }
        return sample;
    }

    /** The number of the bit that has so many set bits below it. */
    private static int bitAt(int bits, int below) {
        int skip = below;
        for (int i = 0; i < 31; i++) {
            if ((bits >> i & 1) == 1) {
                if (skip == 0) {
                    return i;
                }
                skip--;
            }
        }
        return 0;
    }

    /** A number of queries that odds are told of. */
    private static boolean isTold(int t) {
        return t >= 1 && t <= MOST_EXACT;
    }

    /** The bits of a float from 0 to 1 by arithmetic alone: doubling until it is 1 at least tells its exponent. */
    private static int bitsOf(float f) {
        if (!(f > 0f)) {
            return 0;
        }
        float scaled = f;
        int exponent = 127;
        for (; exponent > 1 && scaled < 1f; exponent--) {
            scaled *= 2f;
        }
        return exponent << 23 | (int) ((scaled - 1f) * 8388608f);
    }

    /** The settings of a group, and what follows from them alone. */
    private static final class Rules {
        int nodes;
        int sample;
        int alpha;
        int beta;
        int early = 2;
        int protocol = FLAKE;
        // Of each node all its samples as bits, the less ahead.
        final int[][] samples = new int[MOST_NODES][MOST_SAMPLES];
        int samplesEach;
        // Of i: how many samples of a node have alpha at least of i told others.
        private final int[] carried = new int[MOST_NODES];

        Rules() {
            take(4, 2, 2, 3);
        }

        static boolean fits(int nodes, int sample, int alpha, int beta) {
            return nodes >= 2 && nodes <= MOST_NODES && sample >= 1 && sample < nodes
                && alpha >= 1 && alpha <= sample && 2 * alpha > sample && beta >= 1 && beta <= MOST_BETA;
        }

        void take(int newNodes, int newSample, int newAlpha, int newBeta) {
            nodes = newNodes;
            sample = newSample;
            alpha = newAlpha;
            beta = newBeta;
            early = Math.min(early, beta);
            samplesEach = choose(nodes - 1, sample);
            for (int i = 0; i < nodes; i++) {
                listSamples(i);
                carried[i] = countCarried(i);
            }
        }

        private void listSamples(int node) {
            int found = 0;
            for (int bits = 0; bits <= allNodes() && found < MOST_SAMPLES; bits++) {
                if (isSample(node, bits)) {
                    samples[node][found] = bits;
                    found++;
                }
            }
        }

        private int countCarried(int such) {
            int all = 0;
            for (int a = alpha; a <= sample; a++) {
                all += choose(such, a) * choose(nodes - 1 - such, sample - a);
            }
            return all;
        }

        private static int choose(int n, int k) {
            if (k < 0 || k > n) {
                return 0;
            }
            int ways = 1;
            for (int i = 0; i < k; i++) {
                ways = ways * (n - i) / (i + 1);
            }
            return ways;
        }

        int allNodes() {
            return (1 << nodes) - 1;
        }

        boolean isNode(int node) {
            return node >= 0 && node < nodes;
        }

        boolean isSample(int node, int bits) {
            return isNode(node) && (bits & ~(allNodes() & ~(1 << node))) == 0 && Integer.bitCount(bits) == sample;
        }

        int carriedBy(int such) {
            return such < 0 || such >= nodes ? 0 : carried[such];
        }

        /** WAYS of t queries, or TOO_GREAT. */
        long ways(int t) {
            long each = (long) nodes * samplesEach;
            long all = 1;
            for (int i = 0; i < t; i++) {
                all = Fraction.product(all, each);
                if (all < 0) {
                    return TOO_GREAT;
                }
            }
            return all;
        }

        /** UP of i, of the chain. */
        int up(int i) {
            return (nodes - i) * carriedBy(i);
        }

        /** DOWN of i, of the chain. */
        int down(int i) {
            return i * carriedBy(nodes - i);
        }
    }

    /** All that can be taken back. A node is packed in one int, so that a state of all nodes is a short row. */
    private static final class Group {
        // From the lowest bits up: COLOUR and LAST in two bits each (1 more than they are, so that 0 is a node as it
        // is at first), COUNTER in four, CONFIDENCE in 0 and in 1 in ten each, DECIDED in one.
        private static final int LAST = 2;
        private static final int COUNTER = 4;
        private static final int CONFIDENCE = 8;
        private static final int CONFIDENCE_WIDTH = 10;
        private static final int DECIDED = 1 << 28;

        final int[] nodes = new int[MOST_NODES];
        final int[] kinds = new int[MOST_NODES];
        final int[] links = new int[MOST_NODES];
        final View[] views = new View[MOST_NODES];

        Group() {
            for (int i = 0; i < MOST_NODES; i++) {
                views[i] = new View();
            }
            begin();
        }

        void begin() {
            Arrays.fill(nodes, 0);
            Arrays.fill(kinds, HONEST);
            Arrays.fill(links, -1);
            for (int i = 0; i < MOST_NODES; i++) {
                views[i].begin();
            }
        }

        void takeFrom(Group from) {
            System.arraycopy(from.nodes, 0, nodes, 0, MOST_NODES);
            System.arraycopy(from.kinds, 0, kinds, 0, MOST_NODES);
            System.arraycopy(from.links, 0, links, 0, MOST_NODES);
            for (int i = 0; i < MOST_NODES; i++) {
                views[i].takeFrom(from.views[i]);
            }
        }

        static int colourOf(int packed) {
            return (packed & 3) - 1;
        }

        static int withColour(int packed, int colour) {
            return packed & ~3 | colour + 1;
        }

        static int lastOf(int packed) {
            return (packed >>> LAST & 3) - 1;
        }

        static int withLast(int packed, int colour) {
            return packed & ~(3 << LAST) | colour + 1 << LAST;
        }

        static int counterOf(int packed) {
            return packed >>> COUNTER & 15;
        }

        static int withCounter(int packed, int counter) {
            return packed & ~(15 << COUNTER) | counter << COUNTER;
        }

        static int confidenceOf(int packed, int colour) {
            return packed >>> CONFIDENCE + colour * CONFIDENCE_WIDTH & 1023;
        }

        static int withConfidence(int packed, int colour, int confidence) {
            int at = CONFIDENCE + colour * CONFIDENCE_WIDTH;
            return packed & ~(1023 << at) | confidence << at;
        }

        static boolean isDecided(int packed) {
            return (packed & DECIDED) != 0;
        }

        static int withDecided(int packed) {
            return packed | DECIDED;
        }

        boolean isLinked(int node, int other) {
            return (links[node] >> other & 1) == 1;
        }

        int unlinkedPairs(int size) {
            int pairs = 0;
            for (int i = 0; i < size; i++) {
                for (int j = i + 1; j < size; j++) {
                    pairs += isLinked(i, j) ? 0 : 1;
                }
            }
            return pairs;
        }

        int honestBits(int size) {
            int bits = 0;
            for (int i = 0; i < size; i++) {
                bits |= kinds[i] == HONEST ? 1 << i : 0;
            }
            return bits;
        }

        int decidedBits(int size) {
            int bits = 0;
            for (int i = 0; i < size; i++) {
                bits |= isDecided(nodes[i]) ? 1 << i : 0;
            }
            return bits;
        }
    }

    /** What one node sees of the entries. */
    private static final class View {
        // Numbered as set() asks for them.
        static final int PREFERRED = 0;
        static final int LAST = 1;
        static final int COUNT = 2;
        static final int ACCEPTED = 3;
        private static final int WIDTH = 4;

        int chits;
        int polled;
        private final int[] sets = new int[SETS * WIDTH];

        void begin() {
            chits = 0;
            polled = 0;
            for (int s = 0; s < SETS; s++) {
                put(s, PREFERRED, NONE);
                put(s, LAST, NONE);
                put(s, COUNT, 0);
                put(s, ACCEPTED, NONE);
            }
        }

        void takeFrom(View from) {
            chits = from.chits;
            polled = from.polled;
            System.arraycopy(from.sets, 0, sets, 0, SETS * WIDTH);
        }

        int get(int set, int what) {
            return sets[set * WIDTH + what];
        }

        void put(int set, int what, int value) {
            sets[set * WIDTH + what] = value;
        }

        boolean isOpen(int set) {
            return get(set, ACCEPTED) == NONE;
        }
    }

    /** Queries, in any row of packed nodes; kinds and links are those of the group as it is now. */
    private static final class Asking {
        private final Rules rules;
        private final Group group;
        // What was heard by the last listen(), as bits of nodes: who says 0, who says 1, who takes the colour.
        int zeros;
        int ones;
        int blanks;

        Asking(Rules rules, Group group) {
            this.rules = rules;
            this.group = group;
        }

        /** Hears what each other would say to the node; false: its query can't be. */
        boolean listen(int[] row, int base, int node) {
            zeros = 0;
            ones = 0;
            blanks = 0;
            int asker = row[base + node];
            int colour = Group.colourOf(asker);
            if (group.kinds[node] != HONEST || Group.isDecided(asker) || colour == NONE) {
                return false;
            }
            for (int other = 0; other < rules.nodes; other++) {
                if (other != node && group.isLinked(node, other)) {
                    hear(other, Group.colourOf(row[base + other]), colour);
                }
            }
            return true;
        }

        private void hear(int other, int colour, int asker) {
            int kind = group.kinds[other];
            if (kind == HONEST && colour == NONE) {
                blanks |= 1 << other;
            }
            int said = saying(kind, colour, asker);
            if (said == 0) {
                zeros |= 1 << other;
            } else if (said == 1) {
                ones |= 1 << other;
            }
        }

        private static int saying(int kind, int colour, int asker) {
            switch (kind) {
                case HONEST: return colour == NONE ? asker : colour;
                case SAYS_0: return 0;
                case SAYS_1: return 1;
                case CONTRARY: return 1 - asker;
                default: return NONE;
            }
        }

        int winner(int sample) {
            if (Integer.bitCount(sample & ones) >= rules.alpha) {
                return 1;
            }
            return Integer.bitCount(sample & zeros) >= rules.alpha ? 0 : NONE;
        }

        /** Puts into the row, as it was listened to, what stands behind the query. */
        void settle(int[] row, int node, int winner, int sample) {
            int was = row[node];
            giveColour(row, blanks & sample, Group.colourOf(was));
            if (rules.protocol == SLUSH) {
                row[node] = winner == NONE ? was : Group.withColour(was, winner);
            } else if (winner == NONE) {
                row[node] = Group.withCounter(was, 0);
            } else {
                int next = rules.protocol == FLAKE ? byFlake(was, winner) : byBall(was, winner);
                row[node] = Group.counterOf(next) >= rules.beta ? Group.withDecided(next) : next;
            }
        }

        private void giveColour(int[] row, int takers, int colour) {
            for (int other = 0; takers != 0 && other < rules.nodes; other++) {
                if ((takers >> other & 1) == 1) {
                    row[other] = Group.withColour(row[other], colour);
                }
            }
        }

        private static int byFlake(int packed, int winner) {
            if (winner != Group.colourOf(packed)) {
                return Group.withCounter(Group.withColour(packed, winner), 1);
            }
            return Group.withCounter(packed, Group.counterOf(packed) + 1);
        }

        private static int byBall(int packed, int winner) {
            int confidence = Math.min(Group.confidenceOf(packed, winner) + 1, MOST_CONFIDENCE);
            int next = Group.withConfidence(packed, winner, confidence);
            if (confidence > Group.confidenceOf(next, Group.colourOf(next))) {
                next = Group.withColour(next, winner);
            }
            if (winner != Group.lastOf(next)) {
                return Group.withCounter(Group.withLast(next, winner), 1);
            }
            return Group.withCounter(next, Group.counterOf(next) + 1);
        }

        /** What query() tells of the asking node. */
        static int change(int before, int after) {
            if (Group.isDecided(after)) {
                return 2;
            }
            return Group.colourOf(before) == Group.colourOf(after) ? 0 : 1;
        }

        boolean isSplit(int[] row, int base) {
            return decisions(row, base) == 3;
        }

        /** All honest ones, one at least, are decided alike. */
        boolean isAgreed(int[] row, int base) {
            for (int i = 0; i < rules.nodes; i++) {
                if (group.kinds[i] == HONEST && !Group.isDecided(row[base + i])) {
                    return false;
                }
            }
            int decisions = decisions(row, base);
            return decisions == 1 || decisions == 2;
        }

        /** The colours, as bits, for which honest ones are decided. */
        private int decisions(int[] row, int base) {
            int colours = 0;
            for (int i = 0; i < rules.nodes; i++) {
                int packed = row[base + i];
                if (group.kinds[i] == HONEST && Group.isDecided(packed)) {
                    colours |= Group.colourOf(packed) == 1 ? 2 : 1;
                }
            }
            return colours;
        }

        int honestOnes(int[] row, int base) {
            int bits = 0;
            for (int i = 0; i < rules.nodes; i++) {
                bits |= group.kinds[i] == HONEST && Group.colourOf(row[base + i]) == 1 ? 1 << i : 0;
            }
            return bits;
        }
    }

    /** Unlike states, each a row of packed nodes, numbered as they came; a hash table finds them again. */
    private static final class States {
        private static final int SLOTS = 4096;

        // One more than may be found: a split may come as the 2001st.
        final int[] rows = new int[(MOST_STATES + 1) * MOST_NODES];
        // Of each slot: 0 free, else 1 more than the number of a state.
        private final int[] slots = new int[SLOTS];
        int size;

        void clear() {
            Arrays.fill(slots, 0);
            size = 0;
        }

        /** The slot in which the state stands, or the free one where it belongs. */
        int slotOf(int[] row) {
            int slot = hash(row);
            for (int i = 0; i < SLOTS && slots[slot] != 0 && !isAt(slots[slot] - 1, row); i++) {
                slot = (slot + 1) % SLOTS;
            }
            return slot;
        }

        /** The number of the state in the slot, or NONE. */
        int at(int slot) {
            return slots[slot] - 1;
        }

        boolean isFull() {
            return size >= MOST_STATES;
        }

        int add(int slot, int[] row) {
            if (size > MOST_STATES) {
                return NONE;
            }
            System.arraycopy(row, 0, rows, size * MOST_NODES, MOST_NODES);
            slots[slot] = size + 1;
            size++;
            return size - 1;
        }

        void copyTo(int[] row, int state) {
            System.arraycopy(rows, state * MOST_NODES, row, 0, MOST_NODES);
        }

        private boolean isAt(int state, int[] row) {
            int base = state * MOST_NODES;
            for (int i = 0; i < MOST_NODES; i++) {
                if (rows[base + i] != row[i]) {
                    return false;
                }
            }
            return true;
        }

        private static int hash(int[] row) {
            int mixed = 0;
            for (int i = 0; i < MOST_NODES; i++) {
                mixed = (mixed ^ row[i]) * 0x9E3779B1;
                mixed ^= mixed >>> 15;
            }
            return mixed & SLOTS - 1;
        }
    }

    /** EXACT: the ways to all states behind 1, 2, 3 .. queries, and what was counted of each such layer. */
    private static final class Layers {
        private final Rules rules;
        private final Asking asking;
        private final int[] work = new int[MOST_NODES];
        // Made at the first use: they are dear in elements, and many objects never need them.
        private States here;
        private States next;
        private long[] ways;
        private long[] nextWays;
        private int done;
        private boolean full;
        private int version;
        final long[] splits = new long[MOST_EXACT + 1];
        final long[] agreed = new long[MOST_EXACT + 1];
        final long[][] ones = new long[MOST_EXACT + 1][MOST_NODES + 1];

        Layers(Rules rules, Asking asking) {
            this.rules = rules;
            this.asking = asking;
        }

        /**
         * Goes on to layer t; false: there, or ahead of it, are too many states. Only for a t of which WAYS are a
         * long: then no sum of ways in a layer can be too great.
         */
        boolean reach(int t, int[] row, int asOf) {
            if (here == null || version != asOf) {
                begin(row);
                version = asOf;
            }
            for (int layer = done + 1; layer <= t && !full; layer++) {
                full = !spreadAll();
                if (!full) {
                    turn();
                    tally(layer);
                    done = layer;
                }
            }
            return done >= t;
        }

        private void begin(int[] row) {
            if (here == null) {
                here = new States();
                next = new States();
                ways = new long[MOST_STATES];
                nextWays = new long[MOST_STATES];
            }
            here.clear();
            here.add(here.slotOf(row), row);
            ways[0] = 1;
            done = 0;
            full = false;
        }

        private void turn() {
            States free = here;
            here = next;
            next = free;
            long[] freeWays = ways;
            ways = nextWays;
            nextWays = freeWays;
        }

        private boolean spreadAll() {
            next.clear();
            for (int state = 0; state < here.size; state++) {
                for (int node = 0; node < rules.nodes; node++) {
                    if (!spread(state, node)) {
                        return false;
                    }
                }
            }
            return true;
        }

        private boolean spread(int state, int node) {
            if (!asking.listen(here.rows, state * MOST_NODES, node)) {
                here.copyTo(work, state);
                return pass(ways[state] * rules.samplesEach);
            }
            if (asking.blanks == 0) {
                // Nobody takes a colour: of samples by which the same wins it counts only how many there are.
                int byZero = rules.carriedBy(Integer.bitCount(asking.zeros));
                int byOne = rules.carriedBy(Integer.bitCount(asking.ones));
                return spreadOne(state, node, 0, 0, byZero) && spreadOne(state, node, 1, 0, byOne)
                    && spreadOne(state, node, NONE, 0, rules.samplesEach - byZero - byOne);
            }
            for (int i = 0; i < rules.samplesEach; i++) {
                int sample = rules.samples[node][i];
                if (!spreadOne(state, node, asking.winner(sample), sample, 1)) {
                    return false;
                }
            }
            return true;
        }

        private boolean spreadOne(int state, int node, int winner, int sample, int times) {
            if (times == 0) {
                return true;
            }
            here.copyTo(work, state);
            asking.settle(work, node, winner, sample);
            return pass(ways[state] * times);
        }

        /** So many ways more lead to the state in work; false: it is one too many. */
        private boolean pass(long more) {
            int slot = next.slotOf(work);
            int state = next.at(slot);
            if (state == NONE) {
                state = next.isFull() ? NONE : next.add(slot, work);
                if (state == NONE) {
                    return false;
                }
                nextWays[state] = 0;
            }
            nextWays[state] += more;
            return true;
        }

        private void tally(int layer) {
            splits[layer] = 0;
            agreed[layer] = 0;
            Arrays.fill(ones[layer], 0);
            for (int state = 0; state < here.size; state++) {
                int base = state * MOST_NODES;
                splits[layer] += asking.isSplit(here.rows, base) ? ways[state] : 0;
                agreed[layer] += asking.isAgreed(here.rows, base) ? ways[state] : 0;
                ones[layer][Integer.bitCount(asking.honestOnes(here.rows, base))] += ways[state];
            }
        }
    }

    /** SOONEST and its WAY. */
    private static final class Search {
        private final Rules rules;
        private final Asking asking;
        private final int[] work = new int[MOST_NODES];
        // Made at the first use, as the layers are.
        private States states;
        private int[] parent;
        int[] byNode;
        int[] bySample;
        // How many queries, or NONE, or UNKNOWN.
        int fewest;
        private int split;
        private int version;

        Search(Rules rules, Asking asking) {
            this.rules = rules;
            this.asking = asking;
        }

        void find(int[] row, int asOf) {
            if (states != null && version == asOf) {
                return;
            }
            begin(row);
            version = asOf;
            boolean ended = asking.isSplit(row, 0);
            fewest = ended ? 0 : NONE;
            for (int state = 0; state < MOST_STATES && state < states.size && !ended; state++) {
                for (int node = 0; node < rules.nodes && !ended; node++) {
                    ended = asking.listen(states.rows, state * MOST_NODES, node) && open(state, node);
                }
            }
        }

        private void begin(int[] row) {
            if (states == null) {
                states = new States();
                parent = new int[MOST_STATES + 1];
                byNode = new int[MOST_STATES + 1];
                bySample = new int[MOST_STATES + 1];
            }
            states.clear();
            states.add(states.slotOf(row), row);
            split = 0;
        }

        /** Finds what comes by the node's samples; true: the search is at its end. */
        private boolean open(int state, int node) {
            int tried = 0;
            for (int i = 0; i < rules.samplesEach; i++) {
                int sample = rules.samples[node][i];
                int winner = asking.winner(sample);
                int mark = 1 << winner + 1;
                // Where nobody takes a colour, a second sample with the same winner finds nothing new.
                if (asking.blanks != 0 || (tried & mark) == 0) {
                    tried |= mark;
                    states.copyTo(work, state);
                    asking.settle(work, node, winner, sample);
                    if (comes(state, node, sample)) {
                        return true;
                    }
                }
            }
            return false;
        }

        private boolean comes(int state, int node, int sample) {
            int slot = states.slotOf(work);
            if (states.at(slot) != NONE) {
                return false;
            }
            boolean such = asking.isSplit(work, 0);
            int found = such || !states.isFull() ? states.add(slot, work) : NONE;
            if (found == NONE) {
                fewest = UNKNOWN;
                return true;
            }
            parent[found] = state;
            byNode[found] = node;
            bySample[found] = sample;
            if (such) {
                split = found;
                fewest = depth(found);
            }
            return such;
        }

        private int depth(int state) {
            int steps = 0;
            for (int at = state; at > 0 && steps < MOST_STATES; at = parent[at]) {
                steps++;
            }
            return steps;
        }

        /** The state behind the i-th query on the way; i is below fewest. */
        int behind(int i) {
            int at = split;
            for (int step = fewest - 1; step > i; step--) {
                at = parent[at];
            }
            return at;
        }
    }

    /** A fraction in least terms, 0 or more; below is 0 if it is too great. */
    private static final class Fraction {
        private static final long GREATEST = 0x7FFFFFFFFFFFFFFFL;

        final long above;
        final long below;

        private Fraction(long above, long below) {
            this.above = above;
            this.below = below;
        }

        static Fraction whole(long n) {
            return new Fraction(n, 1);
        }

        /** In least terms; a negative part stands for a number that was no long. */
        private static Fraction least(long above, long below) {
            if (above < 0 || below <= 0) {
                return new Fraction(0, 0);
            }
            long common = common(above, below);
            return common == 0 ? new Fraction(0, 0) : new Fraction(above / common, below / common);
        }

        /** Euclid's steps: fewer than 100 for any two longs. */
        private static long common(long a, long b) {
            long greater = a;
            long less = b;
            for (int step = 0; step < 200 && less != 0; step++) {
                long rest = greater % less;
                greater = less;
                less = rest;
            }
            return greater;
        }

        /** The product of two numbers of 0 or more, or NONE if it is no long or one of them was none. */
        static long product(long a, long b) {
            if (a < 0 || b < 0) {
                return NONE;
            }
            return a != 0 && b > GREATEST / a ? NONE : a * b;
        }

        private static long sum(long a, long b) {
            return a < 0 || b < 0 || a > GREATEST - b ? NONE : a + b;
        }

        private static long difference(long a, long b) {
            return a < 0 || b < 0 ? NONE : a - b;
        }

        boolean isTooGreat() {
            return below == 0;
        }

        boolean isZero() {
            return above == 0 && below != 0;
        }

        Fraction plus(Fraction f) {
            return least(sum(product(above, f.below), product(f.above, below)), product(below, f.below));
        }

        /** Only of one that is not less: the chain takes nothing else away. */
        Fraction less(Fraction f) {
            return least(difference(product(above, f.below), product(f.above, below)), product(below, f.below));
        }

        Fraction times(Fraction f) {
            return least(product(above, f.above), product(below, f.below));
        }

        Fraction by(Fraction f) {
            return least(product(above, f.below), product(below, f.above));
        }
    }

    /** CHAIN: found once for the rules, of all numbers to begin with. */
    private static final class Chain {
        private final Rules rules;
        private final Fraction[] byUp = new Fraction[MOST_NODES + 1];
        private final Fraction[] rest = new Fraction[MOST_NODES + 1];
        final Fraction[] odds = new Fraction[MOST_NODES + 1];
        final Fraction[] time = new Fraction[MOST_NODES + 1];
        private boolean found;

        Chain(Rules rules) {
            this.rules = rules;
        }

        void forget() {
            found = false;
        }

        /** From j one comes to where nothing can change, and not all are alike. */
        boolean mayStay(int j) {
            return staysAbove(j) || staysBelow(j);
        }

        private boolean staysAbove(int j) {
            for (int i = j; i > 0 && i < rules.nodes; i++) {
                if (rules.up(i) == 0) {
                    return rules.down(i) == 0;
                }
            }
            return false;
        }

        private boolean staysBelow(int j) {
            for (int i = j; i > 0 && i < rules.nodes; i--) {
                if (rules.down(i) == 0) {
                    return rules.up(i) == 0;
                }
            }
            return false;
        }

        void findAll() {
            if (found) {
                return;
            }
            found = true;
            solve(Fraction.whole(0), Fraction.whole(1), odds);
            solve(Fraction.whole((long) rules.nodes * rules.samplesEach), Fraction.whole(0), time);
        }

        /** Each query costs so much; what it comes to from each number on, if it comes to atAll where all have 1. */
        private void solve(Fraction cost, Fraction atAll, Fraction[] into) {
            byUp[0] = Fraction.whole(0);
            rest[0] = Fraction.whole(0);
            for (int i = 1; i < rules.nodes; i++) {
                eliminate(i, cost);
            }
            into[rules.nodes] = atAll;
            for (int i = rules.nodes - 1; i >= 0; i--) {
                into[i] = byUp[i].times(into[i + 1]).plus(rest[i]);
            }
        }

        private void eliminate(int i, Fraction cost) {
            Fraction up = Fraction.whole(rules.up(i));
            Fraction down = Fraction.whole(rules.down(i));
            Fraction m = up.plus(down).less(down.times(byUp[i - 1]));
            if (m.isZero()) {
                byUp[i] = Fraction.whole(0);
                rest[i] = Fraction.whole(0);
            } else {
                byUp[i] = up.by(m);
                rest[i] = cost.plus(down.times(rest[i - 1])).by(m);
            }
        }
    }

    /** The entries as told, the same for all nodes. */
    private static final class Graph {
        int entries;
        final int[] setOf = new int[MOST_ENTRIES];
        final int[] one = new int[MOST_ENTRIES];
        final int[] other = new int[MOST_ENTRIES];
        final int[] ancestors = new int[MOST_ENTRIES];
        final int[] progeny = new int[MOST_ENTRIES];
        final int[] deep = new int[MOST_ENTRIES];
        // Of each set its entries, as bits.
        final int[] members = new int[SETS];

        void clear() {
            entries = 0;
            Arrays.fill(members, 0);
        }

        boolean isEntry(int entry) {
            return entry >= 0 && entry < entries;
        }

        boolean isParent(int parent) {
            return parent == NONE || isEntry(parent);
        }

        int add(int set, int firstParent, int secondParent) {
            int entry = entries;
            entries++;
            setOf[entry] = set;
            one[entry] = firstParent;
            other[entry] = secondParent;
            ancestors[entry] = lineOf(firstParent) | lineOf(secondParent);
            progeny[entry] = 0;
            deep[entry] = Math.max(depthBelow(firstParent), depthBelow(secondParent));
            members[set] |= 1 << entry;
            for (int e = 0; e < entry; e++) {
                progeny[e] |= (ancestors[entry] >> e & 1) << entry;
            }
            return entry;
        }

        /** It and its ancestors, as bits. */
        int lineOf(int entry) {
            return isEntry(entry) ? ancestors[entry] | 1 << entry : 0;
        }

        private int depthBelow(int parent) {
            return isEntry(parent) ? deep[parent] + 1 : 0;
        }

        boolean isAlone(int entry) {
            return members[setOf[entry]] == 1 << entry;
        }

        int parentBits(int entry) {
            return (one[entry] == NONE ? 0 : 1 << one[entry]) | (other[entry] == NONE ? 0 : 1 << other[entry]);
        }

        int widest() {
            return widestOf(this, (1 << entries) - 1, 0);
        }

        /** The least of the entries is left out, or taken and all related to it left out; from grows with the depth. */
        private static int widestOf(Graph graph, int among, int from) {
            for (int e = from; e < graph.entries; e++) {
                if ((among >> e & 1) == 1) {
                    int rest = among & ~(1 << e);
                    int free = rest & ~(graph.ancestors[e] | graph.progeny[e]);
                    int taken = 1 + widestOf(graph, free, e + 1);
                    return free == rest ? taken : Math.max(taken, widestOf(graph, rest, e + 1));
                }
            }
            return 0;
        }
    }

    /** Polls, and what the views tell of the entries. */
    private static final class Polling {
        static final int ACCEPTED = 1;
        static final int REJECTED = 2;

        private final Rules rules;
        private final Group group;
        private final Graph graph;

        Polling(Rules rules, Group group, Graph graph) {
            this.rules = rules;
            this.group = group;
            this.graph = graph;
        }

        /** The entries that the node can still poll, as bits: none of a liar. */
        int unpolled(int node) {
            if (!rules.isNode(node) || group.kinds[node] != HONEST) {
                return 0;
            }
            return (1 << graph.entries) - 1 & ~group.views[node].polled;
        }

        int confidence(View view, int entry) {
            return Integer.bitCount(view.chits & (graph.progeny[entry] | 1 << entry));
        }

        boolean isStrong(View view, int entry) {
            int line = graph.lineOf(entry);
            for (int e = 0; e <= entry; e++) {
                if ((line >> e & 1) == 1 && view.get(graph.setOf[e], View.PREFERRED) != e) {
                    return false;
                }
            }
            return true;
        }

        /** 0 open, or ACCEPTED, or REJECTED: an entry is, as soon as another one of its set is accepted. */
        int standing(View view, int entry) {
            int set = graph.setOf[entry];
            if (view.isOpen(set)) {
                return 0;
            }
            return view.get(set, View.ACCEPTED) == entry ? ACCEPTED : REJECTED;
        }

        /** Of all nodes: a liar keeps the view that it has. */
        int nodesThatSee(int entry, int standing) {
            int such = 0;
            for (int i = 0; i < rules.nodes; i++) {
                such += standing(group.views[i], entry) == standing ? 1 : 0;
            }
            return such;
        }

        int splitSets() {
            int split = 0;
            for (int set = 0; set < SETS; set++) {
                split |= isSplitSet(set) ? 1 << set : 0;
            }
            return split;
        }

        private boolean isSplitSet(int set) {
            int accepted = 0;
            for (int i = 0; i < rules.nodes; i++) {
                if (group.kinds[i] == HONEST && !group.views[i].isOpen(set)) {
                    accepted |= 1 << group.views[i].get(set, View.ACCEPTED);
                }
            }
            return Integer.bitCount(accepted) > 1;
        }

        int sayYes(int node, int entry, int sample) {
            boolean strong = isStrong(group.views[node], entry);
            int yes = 0;
            for (int other = 0; other < rules.nodes; other++) {
                if ((sample >> other & 1) == 1 && group.isLinked(node, other)) {
                    yes += saysYes(other, entry, strong) ? 1 : 0;
                }
            }
            return yes;
        }

        private boolean saysYes(int other, int entry, boolean strongForAsker) {
            switch (group.kinds[other]) {
                case HONEST: return isStrong(group.views[other], entry);
                case SAYS_1: return true;
                case CONTRARY: return !strongForAsker;
                default: return false;
            }
        }

        /** The poll itself; tells what poll() tells. */
        int hold(int node, int entry, int sample) {
            View view = group.views[node];
            int line = graph.lineOf(entry);
            view.polled |= 1 << entry;
            if (sayYes(node, entry, sample) < rules.alpha) {
                lose(view, line);
                return 0;
            }
            view.chits |= 1 << entry;
            gain(view, line);
            return accept(view, line) ? 2 : 1;
        }

        private boolean isOpenOf(View view, int line, int entry) {
            return (line >> entry & 1) == 1 && view.isOpen(graph.setOf[entry]);
        }

        private void lose(View view, int line) {
            for (int e = 0; e < graph.entries; e++) {
                if (isOpenOf(view, line, e)) {
                    view.put(graph.setOf[e], View.COUNT, 0);
                }
            }
        }

        private void gain(View view, int line) {
            for (int e = 0; e < graph.entries; e++) {
                if (isOpenOf(view, line, e)) {
                    gainOne(view, graph.setOf[e], e);
                }
            }
        }

        private void gainOne(View view, int set, int entry) {
            int preferred = view.get(set, View.PREFERRED);
            if (preferred == NONE || confidence(view, entry) > confidence(view, preferred)) {
                view.put(set, View.PREFERRED, entry);
            }
            if (view.get(set, View.LAST) == entry) {
                view.put(set, View.COUNT, view.get(set, View.COUNT) + 1);
            } else {
                view.put(set, View.LAST, entry);
                view.put(set, View.COUNT, 1);
            }
        }

        private boolean accept(View view, int line) {
            boolean any = false;
            for (int e = 0; e < graph.entries; e++) {
                if (isOpenOf(view, line, e) && isRipe(view, graph.setOf[e], e)) {
                    view.put(graph.setOf[e], View.ACCEPTED, e);
                    any = true;
                }
            }
            return any;
        }

        private boolean isRipe(View view, int set, int entry) {
            if (view.get(set, View.LAST) != entry || view.get(set, View.PREFERRED) != entry) {
                return false;
            }
            int count = view.get(set, View.COUNT);
            return count >= rules.beta
                || count >= rules.early && graph.isAlone(entry) && areAccepted(view, graph.parentBits(entry));
        }

        private boolean areAccepted(View view, int bits) {
            for (int e = 0; e < graph.entries; e++) {
                if ((bits >> e & 1) == 1 && standing(view, e) != ACCEPTED) {
                    return false;
                }
            }
            return true;
        }
    }
}
