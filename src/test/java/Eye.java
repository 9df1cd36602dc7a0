import java.util.ArrayList;
import java.util.List;

/** Looks at all that can be seen of an office; it makes the run anew wherever an object would get more than 512 calls. */
final class Eye {
    /** What is looked at together; each part begins from the same run. */
    enum Part { COUNTS, KINDS, COSTS, PATTERNS, REGION, RULES, FLOORS, SEARCHES, CHANGES }

    private static final int MOST_CALLS = 512;
    private static final int FEW = 5;

    private final List<String> changes;
    private final StringBuilder seen = new StringBuilder();
    private TileOffice x;
    private int calls;

    Eye(List<String> run) {
        changes = new ArrayList<>(run);
        begin();
    }

    private void begin() {
        x = new TileOffice();
        for (String call : changes) {
            Calls.answer(x, call);
        }
        calls = changes.size();
        if (calls >= MOST_CALLS) {
            throw new IllegalStateException("the run is too long to be looked at");
        }
    }

    long change(String call) {
        if (calls >= MOST_CALLS) {
            begin();
        }
        changes.add(call);
        return note(call);
    }

    private long ask(String call) {
        if (calls >= MOST_CALLS) {
            begin();
        }
        return note(call);
    }

    private long note(String call) {
        calls++;
        long got = Calls.answer(x, call);
        seen.append(call).append(" = ").append(got).append('\n');
        return got;
    }

    String transcript(Part part) {
        switch (part) {
            case COUNTS -> counts();
            case KINDS -> kinds();
            case COSTS -> costs();
            case PATTERNS -> patterns();
            case REGION -> region();
            case RULES -> rules();
            case FLOORS -> floors();
            case SEARCHES -> searches();
            default -> undone();
        }
        return seen.toString();
    }

    private void counts() {
        for (int what = 0; what <= 8; what++) {
            ask("about(" + what + ")");
        }
    }

    private void kinds() {
        long many = ask("about(0)");
        for (int k = 0; k < many; k++) {
            for (int e = 0; e < 4; e++) {
                ask("edge(" + k + ", 0, " + e + ")");
            }
            ask("edge(" + k + ", 7, 4)");
        }
        for (char c = 'a'; c <= 'z'; c++) {
            ask("named('" + c + "')");
        }
        change("kind(0, 1, false, 0, 'newone')");
    }

    private void costs() {
        long many = Math.min(FEW, ask("about(0)"));
        long f = change("floor(1, 1)");
        for (int k = 0; k < many && f >= 0; k++) {
            change("stock(" + f + ", " + k + ", 1)");
            change("cheapest(" + f + ")");
            change("stock(" + f + ", " + k + ", 0)");
        }
    }

    private void patterns() {
        long many = ask("about(1)");
        for (int p = 0; p < many; p++) {
            pattern(p);
        }
    }

    private void pattern(long p) {
        long length = ask("row(" + p + ", 0, 0)");
        for (int i = 0; length >= 0; i++) {
            long offset = ask("row(" + p + ", " + i + ", 1)");
            ask("row(" + p + ", " + i + ", 2)");
            for (long j = offset - 1; j <= offset + length; j++) {
                if (ask("at(" + p + ", " + i + ", " + j + ", 0)") >= 0) {
                    ask("at(" + p + ", " + i + ", " + j + ", 1)");
                    ask("at(" + p + ", " + i + ", " + j + ", 2)");
                }
            }
            length = ask("row(" + p + ", " + (i + 1) + ", 0)");
        }
    }

    private void region() {
        long rows = ask("about(5)");
        long columns = ask("about(6)");
        long p = change("pattern()");
        for (int i = 0; i < rows; i++) {
            change("insert(" + p + ", " + i + ", " + columns + ", 0)");
        }
        change("paste(" + Math.max(0, p) + ", 0, 0)");
        pattern(Math.max(0, p));
    }

    private void rules() {
        long many = ask("about(2)");
        long few = Math.min(FEW, ask("about(0)"));
        for (int r = 0; r < many; r++) {
            for (int a = 0; a < few; a++) {
                for (int b = 0; b < few; b++) {
                    ask("foretold(" + r + ", " + a + ", 1, " + b + ")");
                }
            }
        }
        long p = change("pattern()");
        change("insert(" + p + ", 0, " + FEW + ", 0)");
        for (int k = 0; k < few; k++) {
            change("put(" + p + ", 0, " + k + ", " + k + ", 0)");
        }
        for (int r = 0; r < many; r++) {
            pattern(change("grow(" + p + ", " + r + ", 1)"));
        }
    }

    private void floors() {
        long many = ask("about(3)");
        for (int f = 0; f < many; f++) {
            shown(f);
        }
    }

    private void shown(int f) {
        for (int i = 0; i < 8; i++) {
            for (int j = 0; j < 8; j++) {
                ask("shown(" + f + ", " + i + ", " + j + ")");
            }
        }
    }

    // STOCK and what the PLACES are is seen by what searches find.
    private void searches() {
        long many = ask("about(3)");
        for (int f = 0; f < many; f++) {
            change("forced(" + f + ")");
            shown(f);
            change("fills(" + f + ", 1000)");
            shown(f);
            change("cheapest(" + f + ")");
            ask("about(8)");
        }
    }

    private void undone() {
        long left = ask("about(7)");
        while (left >= 0) {
            left = change("undo()");
            for (int p = 0; p < FEW; p++) {
                ask("count(" + p + ", -1)");
                ask("row(" + p + ", 0, 2)");
                ask("at(" + p + ", 0, 0, 0)");
            }
        }
        patterns();
    }
}
