import java.util.NoSuchElementException;

/** Counts answers that are not due, tells them, and ends a test with exit code 1 if there was one. */
final class Check {
    interface Call {
        long answer();
    }

    private static final int MOST_TOLD = 30;
    private int asked;
    private int wrong;

    void due(String call, long want, long got) {
        asked++;
        if (want != got) {
            tell(call + " answered " + got + ", due is " + want);
        }
    }

    void due(String call, boolean want, boolean got) {
        due(call, want ? 1 : 0, got ? 1 : 0);
    }

    /** Whatever it answers, nothing may be thrown. */
    void calm(String call, Call asking) {
        asked++;
        try {
            asking.answer();
        } catch (RuntimeException | Error e) {
            tell(call + " threw " + e);
        }
    }

    /** Only NoSuchElementException itself is due, no class below or above it. */
    void none(String call, Call asking) {
        asked++;
        try {
            tell(call + " answered " + asking.answer() + ", due is throws.NoSuchElementException");
        } catch (RuntimeException e) {
            if (e.getClass() != NoSuchElementException.class) {
                tell(call + " threw " + e + ", due is throws.NoSuchElementException");
            }
        }
    }

    void tell(String what) {
        wrong++;
        if (wrong <= MOST_TOLD) {
            System.out.println(what);
        }
    }

    boolean isWrong() {
        return wrong > 0;
    }

    void end(String name) {
        System.out.println(name + ": " + asked + " answers, " + wrong + " of them not as due");
        if (wrong > 0) {
            System.exit(1);
        }
    }
}
