/** Counts the answers that are not due, and ends a test. */
final class Check {
    interface Asked {
        long answer();
    }

    private final String test;
    private int asked = 0;
    private int wrong = 0;

    Check(String test) {
        this.test = test;
    }

    void due(String call, long want, long got) {
        asked++;
        if (want != got) {
            wrong++;
            System.out.println(test + ": " + call + " answered " + got + ", due is " + want);
        }
    }

    void due(String call, boolean want, boolean got) {
        due(call, want ? 1 : 0, got ? 1 : 0);
    }

    /** The next value beyond each end of a range, and the farthest ones. */
    static int[] beyond(int least, int greatest) {
        return new int[] {least - 1, greatest + 1, Integer.MIN_VALUE, Integer.MAX_VALUE};
    }

    void outOfBounds(String call, Asked asked) {
        throwing(call, IndexOutOfBoundsException.class, asked);
    }

    void illegalArgument(String call, Asked asked) {
        throwing(call, IllegalArgumentException.class, asked);
    }

    void illegalState(String call, Asked asked) {
        throwing(call, IllegalStateException.class, asked);
    }

    // The exact class counts: what the machine throws (say, of an array) is a subclass of these.
    private void throwing(String call, Class<?> want, Asked asked) {
        this.asked++;
        String got;
        try {
            got = Long.toString(asked.answer());
        } catch (RuntimeException e) {
            if (e.getClass() == want) {
                return;
            }
            got = e.toString();
        }
        wrong++;
        System.out.println(test + ": " + call + " answered " + got + ", due is " + want.getSimpleName());
    }

    void end() {
        System.out.println(test + ": " + asked + " answers, " + wrong + " wrong");
        if (wrong != 0) {
            System.exit(1);
        }
    }
}
