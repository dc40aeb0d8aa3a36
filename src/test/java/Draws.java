import java.util.ArrayList;
import java.util.List;

/** The document's draws, made of longs: neither the wrapping nor the shift is the program's own. */
final class Draws {
    private long x;

    Draws(int seed) {
        x = seed & 0xFFFFFFFFL;
    }

    int of(int m) {
        x = x * 1103515245L + 12345L & 0xFFFFFFFFL;
        return (int) ((x >> 8) % m);
    }

    int sample(int nodes, int node, int k) {
        List<Integer> others = new ArrayList<>();
        for (int i = 0; i < nodes; i++) {
            if (i != node) {
                others.add(i);
            }
        }
        int bits = 0;
        for (int i = 0; i < k; i++) {
            bits |= 1 << others.remove(of(others.size()));
        }
        return bits;
    }
}
