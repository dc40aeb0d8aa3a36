/** All that can be seen of an object without a change, as one text. */
final class Seen {
    private static final int QUERIES_MADE = 12;
    private static final int POLLS_MADE = 13;
    private static final int KEPT = 16;

    private Seen() {
    }

    static String of(SampleHouse x) {
        StringBuilder s = new StringBuilder(group(x));
        for (int what : new int[] {4, 5, QUERIES_MADE, POLLS_MADE, KEPT}) {
            s.append(x.count(what)).append(' ');
        }
        for (int node = 0; node < x.count(0); node++) {
            s.append(x.node(node, 7)).append(' ');
        }
        return s.toString();
    }

    /** That part of it which back() takes back; of a liar's view only what of() tells of all. */
    static String group(SampleHouse x) {
        StringBuilder s = new StringBuilder();
        for (int node = 0; node < x.count(0); node++) {
            for (int what = 0; what < 7; what++) {
                s.append(x.node(node, what)).append(' ');
            }
            if (x.node(node, 6) == 0) {
                view(x, node, s);
            }
        }
        for (int entry = 0; entry < x.count(9); entry++) {
            for (int what = 0; what < 8; what++) {
                s.append(x.of(entry, what)).append(' ');
            }
        }
        for (int what : new int[] {0, 1, 2, 3, 6, 7, 8, 9, 10, 11, 14, 15}) {
            s.append(x.count(what)).append(' ');
        }
        return s.toString();
    }

    static String view(SampleHouse x, int node) {
        StringBuilder s = new StringBuilder();
        view(x, node, s);
        return s.toString();
    }

    private static void view(SampleHouse x, int node, StringBuilder s) {
        for (int set = 0; set < 8; set++) {
            for (int what = 0; what < 4; what++) {
                s.append(x.set(node, set, what)).append(' ');
            }
        }
        for (int entry = 0; entry < x.count(9); entry++) {
            for (int what = 0; what < 5; what++) {
                s.append(x.view(node, entry, what)).append(' ');
            }
        }
    }
}
