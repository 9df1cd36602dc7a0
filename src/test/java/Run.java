import java.util.ArrayList;
import java.util.List;

/** A run of calls on a new office, for one sentence of the document; it keeps to the 512 calls that an object is made for. */
final class Run {
    private static int asked;
    private static int wrong;

    private final String sentence;
    private final List<String> made = new ArrayList<>();
    private final TileOffice x = new TileOffice();

    Run(String itsSentence) {
        sentence = itsSentence;
    }

    /** Calls that are made and must not be refused. */
    Run go(String... calls) {
        for (String call : calls) {
            long got = answer(call);
            check(call, got == Calls.refusal(call), "was refused");
        }
        return this;
    }

    Run times(int n, String call) {
        for (int k = 0; k < n; k++) {
            go(call);
        }
        return this;
    }

    Run due(String call, long want) {
        long got = answer(call);
        check(call, got != want, "answered " + got + ", due is " + want);
        return this;
    }

    /** Each of the calls alone, after what was made so far, is refused, and nothing that can be seen has changed then. */
    Run refuses(String... calls) {
        for (String call : calls) {
            Eye eye = new Eye(made);
            long got = eye.change(call);
            check(call, got != Calls.refusal(call), "answered " + got + ", due is the refusal " + Calls.refusal(call));
            unchanged(call);
        }
        return this;
    }

    /** Each of the calls alone answers this, and changes nothing. */
    Run tells(long want, String... calls) {
        for (String call : calls) {
            long got = new Eye(made).change(call);
            check(call, got != want, "answered " + got + ", due is " + want);
            unchanged(call);
        }
        return this;
    }

    private void unchanged(String call) {
        List<String> more = new ArrayList<>(made);
        more.add(call);
        for (Eye.Part part : Eye.Part.values()) {
            String without = new Eye(made).transcript(part);
            String with = new Eye(more).transcript(part);
            check(call, !without.equals(with), "changed the " + part + ": " + firstApart(without, with));
        }
    }

    private static String firstApart(String one, String other) {
        String[] left = one.split("\n");
        String[] right = other.split("\n");
        int n = 0;
        while (n < left.length && n < right.length && left[n].equals(right[n])) {
            n++;
        }
        return (n < left.length ? left[n] : "nothing") + " became " + (n < right.length ? right[n] : "nothing");
    }

    private long answer(String call) {
        made.add(call);
        check(call, made.size() > 512, "is call " + made.size() + " of one object");
        return Calls.answer(x, call);
    }

    private void check(String call, boolean isWrong, String what) {
        asked++;
        if (isWrong) {
            wrong++;
            System.out.println("[" + sentence + "] call " + made.size() + ": " + call + " " + what);
        }
    }

    static void end(String test) {
        System.out.println(test + ": " + asked + " answers, " + wrong + " wrong");
        if (wrong > 0) {
            System.exit(1);
        }
    }
}
