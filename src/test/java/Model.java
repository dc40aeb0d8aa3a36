import java.math.BigInteger;
import java.util.ArrayDeque;
import java.util.ArrayList;
import java.util.Arrays;
import java.util.Deque;
import java.util.HashMap;
import java.util.LinkedHashMap;
import java.util.List;
import java.util.Map;
import java.util.NoSuchElementException;

/**
 * The document once more, slow and plain: every state is copied, every set is a boolean row, every number of ways a
 * BigInteger. It shares no line with the program, so that the two can be held against one another.
 */
final class Model {
    static final class Node {
        int colour = -1;
        int last = -1;
        int counter;
        int[] confidence = new int[2];
        boolean decided;

        Node copy() {
            Node n = new Node();
            n.colour = colour;
            n.last = last;
            n.counter = counter;
            n.confidence = confidence.clone();
            n.decided = decided;
            return n;
        }

        @Override
        public String toString() {
            return colour + "," + last + "," + counter + "," + confidence[0] + "," + confidence[1] + "," + decided + ";";
        }
    }

    static final class Eyes {
        boolean[] chit = new boolean[16];
        boolean[] polled = new boolean[16];
        boolean[] accepted = new boolean[16];
        boolean[] rejected = new boolean[16];
        int[] preferred = new int[8];
        int[] last = new int[8];
        int[] count = new int[8];

        Eyes() {
            Arrays.fill(preferred, -1);
            Arrays.fill(last, -1);
        }

        Eyes copy() {
            Eyes v = new Eyes();
            v.chit = chit.clone();
            v.polled = polled.clone();
            v.accepted = accepted.clone();
            v.rejected = rejected.clone();
            v.preferred = preferred.clone();
            v.last = last.clone();
            v.count = count.clone();
            return v;
        }
    }

    static final class Shot {
        Node[] nodes;
        int[] kinds;
        boolean[][] linked;
        Eyes[] views;
    }

    int n = 4;
    int k = 2;
    int alpha = 2;
    int beta = 3;
    int early = 2;
    int protocol = 1;
    Node[] nodes;
    int[] kinds;
    boolean[][] linked;
    Eyes[] views;
    int[] made;
    int pollsMade;
    final List<int[]> entries = new ArrayList<>();
    final Deque<Shot> history = new ArrayDeque<>();
    int x;
    List<int[]> foundWay;

    Model() {
        fresh();
    }

    private void fresh() {
        nodes = new Node[n];
        kinds = new int[n];
        linked = new boolean[n][n];
        views = new Eyes[n];
        made = new int[n];
        for (int i = 0; i < n; i++) {
            nodes[i] = new Node();
            views[i] = new Eyes();
            Arrays.fill(linked[i], true);
        }
        pollsMade = 0;
        entries.clear();
        history.clear();
    }

    boolean group(int nodes, int sample, int alpha, int beta) {
        if (nodes < 2 || nodes > 8 || sample < 1 || sample > nodes - 1 || alpha > sample || beta < 1 || beta > 15) {
            return false;
        }
        if ((long) alpha * 2 <= sample) {
            return false;
        }
        n = nodes;
        k = sample;
        this.alpha = alpha;
        this.beta = beta;
        if (early > beta) {
            early = beta;
        }
        fresh();
        return true;
    }

    int protocol(int p) {
        if (p != 0 && p != 1 && p != 2) {
            return -1;
        }
        int was = protocol;
        protocol = p;
        return was;
    }

    int early(int e) {
        if (e < 1 || e > beta) {
            return -1;
        }
        int was = early;
        early = e;
        return was;
    }

    private boolean is(int node) {
        return node >= 0 && node < n;
    }

    private void remember() {
        Shot s = new Shot();
        s.nodes = copyNodes(nodes);
        s.kinds = kinds.clone();
        s.linked = new boolean[n][];
        s.views = new Eyes[n];
        for (int i = 0; i < n; i++) {
            s.linked[i] = linked[i].clone();
            s.views[i] = views[i].copy();
        }
        history.addLast(s);
        if (history.size() > 8) {
            history.removeFirst();
        }
    }

    private static Node[] copyNodes(Node[] from) {
        Node[] to = new Node[from.length];
        for (int i = 0; i < to.length; i++) {
            to[i] = from[i].copy();
        }
        return to;
    }

    boolean back() {
        if (history.isEmpty()) {
            return false;
        }
        Shot s = history.removeLast();
        nodes = s.nodes;
        kinds = s.kinds;
        linked = s.linked;
        views = s.views;
        return true;
    }

    int kind(int node, int kind) {
        if (!is(node) || kind < 0 || kind > 4) {
            return -1;
        }
        remember();
        int was = kinds[node];
        kinds[node] = kind;
        return was;
    }

    boolean link(int a, int b, boolean on) {
        if (!is(a) || !is(b) || a == b || linked[a][b] == on) {
            return false;
        }
        remember();
        linked[a][b] = on;
        linked[b][a] = on;
        return true;
    }

    boolean colour(int node, int colour) {
        if (!is(node) || colour < -1 || colour > 1) {
            return false;
        }
        remember();
        nodes[node] = new Node();
        nodes[node].colour = colour;
        return true;
    }

    private boolean goodSample(int node, int sample) {
        if (!is(node) || sample < 0 || sample >= 1 << n) {
            return false;
        }
        int members = 0;
        for (int i = 0; i < n; i++) {
            if ((sample & 1 << i) != 0) {
                if (i == node) {
                    return false;
                }
                members++;
            }
        }
        return members == k;
    }

    private boolean canQuery(Node[] at, int node) {
        return kinds[node] == 0 && !at[node].decided && at[node].colour != -1;
    }

    /** A query in the state told, which is changed; 0, 1, 2 as query() tells. */
    private int ask(Node[] at, int node, int sample) {
        Node me = at[node];
        int old = me.colour;
        int[] said = new int[2];
        for (int i = 0; i < n; i++) {
            if ((sample & 1 << i) == 0 || !linked[node][i]) {
                continue;
            }
            if (kinds[i] == 0) {
                if (at[i].colour == -1) {
                    at[i].colour = old;
                }
                said[at[i].colour]++;
            } else if (kinds[i] == 1) {
                said[0]++;
            } else if (kinds[i] == 2) {
                said[1]++;
            } else if (kinds[i] == 3) {
                said[old == 0 ? 1 : 0]++;
            }
        }
        int wins = said[0] >= alpha ? 0 : said[1] >= alpha ? 1 : -1;
        if (protocol == 0) {
            if (wins != -1) {
                me.colour = wins;
            }
        } else {
            if (wins == -1) {
                me.counter = 0;
            } else if (protocol == 1) {
                if (wins != me.colour) {
                    me.colour = wins;
                    me.counter = 1;
                } else {
                    me.counter++;
                }
            } else {
                me.confidence[wins] = Math.min(999, me.confidence[wins] + 1);
                if (me.confidence[wins] > me.confidence[me.colour]) {
                    me.colour = wins;
                }
                if (wins != me.last) {
                    me.last = wins;
                    me.counter = 1;
                } else {
                    me.counter++;
                }
            }
            if (me.counter == beta) {
                me.decided = true;
            }
        }
        return me.decided ? 2 : me.colour != old ? 1 : 0;
    }

    int query(int node, int sample) {
        if (!goodSample(node, sample) || !canQuery(nodes, node)) {
            return -1;
        }
        remember();
        made[node]++;
        return ask(nodes, node, sample);
    }

    int would(int node, int sample) {
        if (!goodSample(node, sample) || !canQuery(nodes, node)) {
            return -1;
        }
        return ask(copyNodes(nodes), node, sample);
    }

    private int draw(int m) {
        x = x * 1103515245 + 12345;
        return (x >>> 8) % m;
    }

    private int drawSample(int node) {
        List<Integer> others = new ArrayList<>();
        for (int i = 0; i < n; i++) {
            if (i != node) {
                others.add(i);
            }
        }
        int sample = 0;
        for (int i = 0; i < k; i++) {
            sample |= 1 << others.remove(draw(others.size()));
        }
        return sample;
    }

    int run(int times, int seed) {
        if (times < 1 || times > 300) {
            return -1;
        }
        remember();
        x = seed;
        int decided = 0;
        for (int i = 0; i < times; i++) {
            int node = draw(n);
            int sample = drawSample(node);
            if (canQuery(nodes, node)) {
                made[node]++;
                if (ask(nodes, node, sample) == 2) {
                    decided++;
                }
            }
        }
        return decided;
    }

    int node(int node, int what) {
        if (!is(node) || what < 0 || what > 7) {
            return -2;
        }
        Node m = nodes[node];
        return new int[] {m.colour, m.last, m.counter, m.confidence[0], m.confidence[1], m.decided ? 1 : 0,
            kinds[node], made[node]}[what];
    }

    List<Integer> samplesOf(int node) {
        List<Integer> all = new ArrayList<>();
        for (int s = 0; s < 1 << n; s++) {
            if (goodSample(node, s)) {
                all.add(s);
            }
        }
        return all;
    }

    private boolean split(Node[] at) {
        for (int i = 0; i < n; i++) {
            for (int j = 0; j < n; j++) {
                if (kinds[i] == 0 && kinds[j] == 0 && at[i].decided && at[j].decided && at[i].colour != at[j].colour) {
                    return true;
                }
            }
        }
        return false;
    }

    private boolean agreed(Node[] at) {
        int honest = 0;
        for (int i = 0; i < n; i++) {
            if (kinds[i] == 0) {
                honest++;
                if (!at[i].decided) {
                    return false;
                }
            }
        }
        return honest > 0 && !split(at);
    }

    private int ones(Node[] at) {
        int all = 0;
        for (int i = 0; i < n; i++) {
            if (kinds[i] == 0 && at[i].colour == 1) {
                all++;
            }
        }
        return all;
    }

    private static final class Reached {
        Node[] at;
        BigInteger ways;
    }

    BigInteger allWays(int t) {
        return BigInteger.valueOf((long) n * samplesOf(0).size()).pow(t);
    }

    /** The states behind t queries, or null if there, or ahead, are more than 2000. */
    private Map<String, Reached> behind(int t) {
        Map<String, Reached> here = new HashMap<>();
        Reached first = new Reached();
        first.at = nodes;
        first.ways = BigInteger.ONE;
        here.put(Arrays.toString(nodes), first);
        for (int layer = 1; layer <= t; layer++) {
            Map<String, Reached> next = new HashMap<>();
            for (Reached r : here.values()) {
                for (int node = 0; node < n; node++) {
                    for (int sample : samplesOf(node)) {
                        Reached to = new Reached();
                        to.at = copyNodes(r.at);
                        to.ways = r.ways;
                        if (canQuery(to.at, node)) {
                            ask(to.at, node, sample);
                        }
                        String key = Arrays.toString(to.at);
                        Reached there = next.get(key);
                        if (there == null) {
                            next.put(key, to);
                        } else {
                            there.ways = there.ways.add(to.ways);
                        }
                    }
                }
                if (next.size() > 2000) {
                    return null;
                }
            }
            here = next;
        }
        return here;
    }

    private static boolean noLong(BigInteger b) {
        return b.bitLength() > 63;
    }

    long exact(int t, int what) {
        if (t < 1 || t > 12 || what < 0 || what > 2) {
            return -1;
        }
        if (noLong(allWays(t))) {
            return -2;
        }
        if (what == 0) {
            return allWays(t).longValue();
        }
        Map<String, Reached> there = behind(t);
        if (there == null) {
            return -3;
        }
        BigInteger sum = BigInteger.ZERO;
        for (Reached r : there.values()) {
            if (what == 1 ? split(r.at) : agreed(r.at)) {
                sum = sum.add(r.ways);
            }
        }
        return sum.longValueExact();
    }

    long colours(int t, int such) {
        if (t < 1 || t > 12 || such < 0 || such > n) {
            return -1;
        }
        if (noLong(allWays(t))) {
            return -2;
        }
        Map<String, Reached> there = behind(t);
        if (there == null) {
            return -3;
        }
        BigInteger sum = BigInteger.ZERO;
        for (Reached r : there.values()) {
            if (ones(r.at) == such) {
                sum = sum.add(r.ways);
            }
        }
        return sum.longValueExact();
    }

    int odds(int t) {
        long splits = exact(t, 1);
        return splits < 0 ? (int) splits : Float.floatToIntBits((float) splits / (float) exact(t, 0));
    }

    /** Fills foundWay, if there is a way. */
    int soonest() {
        foundWay = new ArrayList<>();
        if (split(nodes)) {
            return 0;
        }
        Map<String, List<int[]>> ways = new LinkedHashMap<>();
        List<Node[]> row = new ArrayList<>();
        row.add(nodes);
        ways.put(Arrays.toString(nodes), new ArrayList<>());
        for (int i = 0; i < row.size(); i++) {
            Node[] from = row.get(i);
            for (int node = 0; node < n; node++) {
                if (!canQuery(from, node)) {
                    continue;
                }
                for (int sample : samplesOf(node)) {
                    Node[] to = copyNodes(from);
                    ask(to, node, sample);
                    String key = Arrays.toString(to);
                    if (ways.containsKey(key)) {
                        continue;
                    }
                    List<int[]> way = new ArrayList<>(ways.get(Arrays.toString(from)));
                    way.add(new int[] {node, sample});
                    if (split(to)) {
                        foundWay = way;
                        return way.size();
                    }
                    if (ways.size() == 2000) {
                        return -3;
                    }
                    ways.put(key, way);
                    row.add(to);
                }
            }
        }
        return -1;
    }

    int way(int i, int what) {
        if (i < 0 || what < 0 || what > 1) {
            return -2;
        }
        int steps = soonest();
        if (steps == -3) {
            return -3;
        }
        return i < foundWay.size() ? foundWay.get(i)[what] : -2;
    }

    // Entries.

    private boolean isEntry(int e) {
        return e >= 0 && e < entries.size();
    }

    boolean isAncestor(int up, int e) {
        for (int p = 1; p <= 2; p++) {
            int parent = entries.get(e)[p];
            if (parent != -1 && (parent == up || isAncestor(up, parent))) {
                return true;
            }
        }
        return false;
    }

    int entry(int set, int one, int other) {
        if (set < 0 || set > 7 || entries.size() == 16) {
            return -1;
        }
        if (one != -1 && !isEntry(one) || other != -1 && !isEntry(other) || one != -1 && one == other) {
            return -1;
        }
        int number = entries.size();
        entries.add(new int[] {set, one, other});
        for (Eyes v : views) {
            if (v.preferred[set] == -1) {
                v.preferred[set] = number;
            }
            for (int e = 0; e < number; e++) {
                if (entries.get(e)[0] == set && v.accepted[e]) {
                    v.rejected[number] = true;
                }
            }
        }
        history.clear();
        return number;
    }

    private int conf(Eyes v, int e) {
        int sum = 0;
        for (int p = 0; p < entries.size(); p++) {
            if (v.chit[p] && (p == e || isAncestor(e, p))) {
                sum++;
            }
        }
        return sum;
    }

    private boolean strong(Eyes v, int e) {
        for (int a = 0; a < entries.size(); a++) {
            if ((a == e || isAncestor(a, e)) && v.preferred[entries.get(a)[0]] != a) {
                return false;
            }
        }
        return true;
    }

    private boolean canPoll(int node, int e) {
        return is(node) && kinds[node] == 0 && isEntry(e) && !views[node].polled[e];
    }

    int yes(int node, int e, int sample) {
        if (!canPoll(node, e) || !goodSample(node, sample)) {
            return -1;
        }
        int sum = 0;
        for (int i = 0; i < n; i++) {
            if ((sample & 1 << i) == 0 || !linked[node][i]) {
                continue;
            }
            if (kinds[i] == 0 && strong(views[i], e) || kinds[i] == 2 || kinds[i] == 3 && !strong(views[node], e)) {
                sum++;
            }
        }
        return sum;
    }

    private boolean settled(Eyes v, int set) {
        for (int e = 0; e < entries.size(); e++) {
            if (entries.get(e)[0] == set && v.accepted[e]) {
                return true;
            }
        }
        return false;
    }

    private int hold(int node, int e, int sample) {
        boolean won = yes(node, e, sample) >= alpha;
        Eyes v = views[node];
        v.polled[e] = true;
        pollsMade++;
        List<Integer> line = new ArrayList<>();
        for (int a = 0; a < entries.size(); a++) {
            if (a == e || isAncestor(a, e)) {
                line.add(a);
            }
        }
        if (!won) {
            for (int a : line) {
                if (!settled(v, entries.get(a)[0])) {
                    v.count[entries.get(a)[0]] = 0;
                }
            }
            return 0;
        }
        v.chit[e] = true;
        for (int a : line) {
            int set = entries.get(a)[0];
            if (settled(v, set)) {
                continue;
            }
            if (conf(v, a) > conf(v, v.preferred[set])) {
                v.preferred[set] = a;
            }
            if (v.last[set] == a) {
                v.count[set]++;
            } else {
                v.last[set] = a;
                v.count[set] = 1;
            }
        }
        int answer = 1;
        for (int a : line) {
            int set = entries.get(a)[0];
            if (settled(v, set) || v.last[set] != a || v.preferred[set] != a) {
                continue;
            }
            int inSet = 0;
            for (int[] other : entries) {
                inSet += other[0] == set ? 1 : 0;
            }
            boolean parents = true;
            for (int p = 1; p <= 2; p++) {
                int parent = entries.get(a)[p];
                parents &= parent == -1 || v.accepted[parent];
            }
            if (v.count[set] >= beta || inSet == 1 && parents && v.count[set] >= early) {
                v.accepted[a] = true;
                answer = 2;
                for (int b = 0; b < entries.size(); b++) {
                    if (b != a && entries.get(b)[0] == set) {
                        v.rejected[b] = true;
                    }
                }
            }
        }
        return answer;
    }

    int poll(int node, int e, int sample) {
        if (!canPoll(node, e) || !goodSample(node, sample)) {
            return -1;
        }
        remember();
        return hold(node, e, sample);
    }

    int polls(int times, int seed) {
        if (times < 1 || times > 100) {
            return -1;
        }
        remember();
        x = seed;
        int had = 0;
        for (int i = 0; i < times; i++) {
            int node = draw(n);
            List<Integer> open = new ArrayList<>();
            for (int e = 0; e < entries.size(); e++) {
                if (canPoll(node, e)) {
                    open.add(e);
                }
            }
            if (!open.isEmpty()) {
                int e = open.get(draw(open.size()));
                if (hold(node, e, drawSample(node)) > 0) {
                    had++;
                }
            }
        }
        return had;
    }

    private int deep(int e) {
        int deepest = -1;
        for (int p = 1; p <= 2; p++) {
            if (entries.get(e)[p] != -1) {
                deepest = Math.max(deepest, deep(entries.get(e)[p]));
            }
        }
        return deepest + 1;
    }

    int of(int e, int what) {
        if (!isEntry(e) || what < 0 || what > 7) {
            return -2;
        }
        int ancestors = 0;
        int progeny = 0;
        for (int o = 0; o < entries.size(); o++) {
            ancestors |= isAncestor(o, e) ? 1 << o : 0;
            progeny |= isAncestor(e, o) ? 1 << o : 0;
        }
        int accepted = 0;
        int rejected = 0;
        for (Eyes v : views) {
            accepted += v.accepted[e] ? 1 : 0;
            rejected += v.rejected[e] ? 1 : 0;
        }
        int[] told = entries.get(e);
        return new int[] {told[0], told[1], told[2], ancestors, progeny, deep(e), accepted, rejected}[what];
    }

    private static int standing(Eyes v, int e) {
        return v.accepted[e] ? 1 : v.rejected[e] ? 2 : 0;
    }

    int view(int node, int e, int what) {
        if (!is(node) || kinds[node] != 0 || !isEntry(e) || what < 0 || what > 4) {
            throw new NoSuchElementException();
        }
        Eyes v = views[node];
        return new int[] {v.chit[e] ? 1 : 0, v.polled[e] ? 1 : 0, conf(v, e), strong(v, e) ? 1 : 0, standing(v, e)}[what];
    }

    int set(int node, int set, int what) {
        if (!is(node) || kinds[node] != 0 || set < 0 || set > 7 || what < 0 || what > 3) {
            throw new NoSuchElementException();
        }
        Eyes v = views[node];
        int accepted = -1;
        for (int e = 0; e < entries.size(); e++) {
            if (entries.get(e)[0] == set && v.accepted[e]) {
                accepted = e;
            }
        }
        return new int[] {v.preferred[set], v.last[set], v.count[set], accepted}[what];
    }

    int alike(int a, int b) {
        if (!is(a) || !is(b) || kinds[a] != 0 || kinds[b] != 0) {
            return -1;
        }
        int sum = 0;
        for (int e = 0; e < entries.size(); e++) {
            sum += standing(views[a], e) == standing(views[b], e) ? 1 : 0;
        }
        return sum;
    }

    private int splitSets() {
        int bits = 0;
        for (int s = 0; s < 8; s++) {
            for (int a = 0; a < n; a++) {
                for (int b = 0; b < n; b++) {
                    if (kinds[a] == 0 && kinds[b] == 0 && set(a, s, 3) != -1 && set(b, s, 3) != -1
                        && set(a, s, 3) != set(b, s, 3)) {
                        bits |= 1 << s;
                    }
                }
            }
        }
        return bits;
    }

    private int widest() {
        int size = entries.size();
        int[] related = new int[size];
        for (int a = 0; a < size; a++) {
            for (int b = 0; b < size; b++) {
                related[a] |= isAncestor(b, a) || isAncestor(a, b) ? 1 << b : 0;
            }
        }
        int best = 0;
        for (int bits = 0; bits < 1 << size; bits++) {
            boolean free = true;
            for (int a = 0; a < size && free; a++) {
                free = (bits & 1 << a) == 0 || (bits & related[a]) == 0;
            }
            best = free ? Math.max(best, Integer.bitCount(bits)) : best;
        }
        return best;
    }

    int count(int what) {
        int honest = 0;
        int decided = 0;
        int ones = 0;
        int queries = 0;
        int unlinked = 0;
        for (int i = 0; i < n; i++) {
            honest |= kinds[i] == 0 ? 1 << i : 0;
            decided |= nodes[i].decided ? 1 << i : 0;
            ones |= kinds[i] == 0 && nodes[i].colour == 1 ? 1 << i : 0;
            queries += made[i];
            for (int j = 0; j < i; j++) {
                unlinked += linked[i][j] ? 0 : 1;
            }
        }
        switch (what) {
            case 0: return n;
            case 1: return k;
            case 2: return alpha;
            case 3: return beta;
            case 4: return early;
            case 5: return protocol;
            case 6: return honest;
            case 7: return decided;
            case 8: return ones;
            case 9: return entries.size();
            case 10: return splitSets();
            case 11: return widest();
            case 12: return queries;
            case 13: return pollsMade;
            case 14: return split(nodes) ? 1 : 0;
            case 15: return unlinked;
            case 16: return history.size();
            default: return -1;
        }
    }
}
