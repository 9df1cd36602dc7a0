/** Counts the answers that are not the ones that are due, and says which. */
final class Due {
    private int wrong;
    private int asked;

    void is(String call, long got, long want) {
        asked++;
        if (got != want) {
            wrong++;
            System.out.println(call + " answered " + got + ", due is " + want);
        }
    }

    void is(String call, boolean got, boolean want) {
        is(call, got ? 1 : 0, want ? 1 : 0);
    }

    void yes(String call, boolean got) {
        is(call, got, true);
    }

    void no(String call, boolean got) {
        is(call, got, false);
    }

    void end(String test) {
        System.out.println(test + ": " + asked + " answers, " + wrong + " wrong");
        if (wrong > 0) {
            System.exit(1);
        }
    }

    /** A name as the long that the office takes. */
    static long name(String letters) {
        long packed = 0;
        for (int i = 0; i < letters.length(); i++) {
            packed = packed << 8 | letters.charAt(i);
        }
        return packed;
    }

    /** Edges from above on: above, right, below, left. */
    static int edges(int above, int right, int below, int left) {
        return above | right << 4 | below << 8 | left << 12;
    }
}
