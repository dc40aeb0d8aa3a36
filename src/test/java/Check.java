import java.util.NoSuchElementException;

/** Counts answers that are not due, tells them, and ends a test with exit code 1 if there was one. */
final class Check {
    interface Call {
        long answer();
    }

    private static final int MOST_TOLD = 30;
    private Doc doc;
    private String sentence = "";
    private int asked;
    private int wrong;

    /** The next answers are of this sentence of the document's terms, which stands there word for word. */
    void term(String quote) {
        says(quote, doc().hasTerm(quote));
    }

    /** The next answers are of this sentence, which stands ahead of the document's terms. */
    void head(String quote) {
        says(quote, doc().hasHead(quote));
    }

    /** The next answers are of this sentence of a promise. */
    void promise(int number, String quote) {
        says("Promise " + number + ": " + quote, doc().hasPromise(number, quote));
    }

    private Doc doc() {
        if (doc == null) {
            doc = new Doc();
        }
        return doc;
    }

    private void says(String quote, boolean stands) {
        sentence = "[" + quote + "] ";
        if (!stands) {
            tell("this does not stand in the document");
        }
    }

    /** Each of these promises has been quoted. */
    void promised(int from, int to) {
        sentence = "";
        for (int number = from; number <= to; number++) {
            due("a test of promise " + number, true, doc().isQuoted(number));
        }
    }

    void due(String call, long want, long got) {
        asked++;
        if (want != got) {
            tell(call + " answered " + got + ", due is " + want);
        }
    }

    void due(String call, boolean want, boolean got) {
        due(call, want ? 1 : 0, got ? 1 : 0);
    }

    /** A call that is refused, or only asks: it answers so, and all that can be seen is as it was. */
    void still(String call, SampleHouse x, long want, Call asking) {
        String before = Seen.of(x);
        due(call, want, asking.answer());
        due(call + " leaves all as it was", true, before.equals(Seen.of(x)));
    }

    /** Whatever it answers, nothing may be thrown. */
    void calm(String call, Call asking) {
        asked++;
        try {
            asking.answer();
        } catch (RuntimeException | Error e) {
            tell(call + " threw " + e);
        }
    }

    /** Only NoSuchElementException itself is due, no class below or above it. */
    void none(String call, Call asking) {
        asked++;
        try {
            tell(call + " answered " + asking.answer() + ", due is throws.NoSuchElementException");
        } catch (RuntimeException e) {
            if (e.getClass() != NoSuchElementException.class) {
                tell(call + " threw " + e + ", due is throws.NoSuchElementException");
            }
        }
    }

    void tell(String what) {
        wrong++;
        if (wrong <= MOST_TOLD) {
            System.out.println(sentence + what);
        }
    }

    boolean isWrong() {
        return wrong > 0;
    }

    void end(String name) {
        System.out.println(name + ": " + asked + " answers, " + wrong + " of them not as due");
        if (wrong > 0) {
            System.exit(1);
        }
    }
}
