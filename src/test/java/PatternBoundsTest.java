/** The sentences on PATTERNS, ROWS and CELLS (==== 3., promises 6 to 15) that name a boundary, each with a test of its own. */
public final class PatternBoundsTest {
    private static final String[] BASE = {"kind(0, 1, false, 3, 'a')", "kind(0x1010, 2, false, 2, 'b')",
        "kind(0x3210, 4, true, 1, 'c')", "pattern()"};

    public static void main(String[] args) {
        sixteenPatterns();
        aPatternWithoutRows();
        patternsThatAre();
        sixtyRows();
        lengths();
        offsets();
        cellsFromOffsetOn();
        newOnesAreEmpty();
        insertedAheadOrBehind();
        removed();
        moved();
        kindsThatArePut();
        movesThatArePut();
        emptyWithAnyMove();
        putHasShadeNone();
        liesAsItLies();
        shadesGoRound();
        shadedOnesAreNotEmpty();
        whatOfACell();
        whatOfARow();
        placesOfARow();
        veryRows();
        copies();
        ownRowsOfPutAndShade();
        ownRowsOfPaste();
        rowsAreNotGivenBack();
        rowsOfWhatComesAtTheEnd();
        theLastOfSixThousand();
        moreThanAreLeft();
        nothingNeededAtTheEnd();
        Run.end("PatternBoundsTest");
    }

    private static Run run(String sentence) {
        return new Run(sentence).go(BASE);
    }

    private static void sixteenPatterns() {
        Run run = run("PATTERNS are numbered from 0 on, 16 at most").go("rule(1, 1)");
        for (int p = 1; p < 16; p++) {
            run.due(p % 3 == 0 ? "copy(0)" : p % 3 == 1 ? "pattern()" : "grow(0, 0, 1)", p);
        }
        run.refuses("pattern()", "copy(0)", "copy(15)", "grow(0, 0, 0)", "grow(15, 0, 1)").due("about(1)", 16);
        run.go("insert(15, 0, 1, 0)").refuses("insert(16, 0, 1, 0)");
    }

    private static void aPatternWithoutRows() {
        Run run = run("A pattern without rows");
        run.refuses("row(0, 0, 0)", "row(0, 0, 2)", "remove(0, 0)", "move(0, 0, 0)", "put(0, 0, 0, 0, 0)", "shade(0, 0, 0, 0)",
            "shares(0, 0, 0, 0)");
        run.due("at(0, 0, 0, 0)", -2).due("count(0, -1)", 0).due("fits(0)", 0).due("kept(0)", 0).due("period(0, 0)", 1)
            .due("period(0, 1)", 1);
        run.due("region(0, 0, 0, 1, 1)", 0).due("paste(0, 0, 0)", 0).due("about(7)", 0).due("copy(0)", 1).due("about(4)", 0);
    }

    private static void patternsThatAre() {
        Run run = run("there is none such (a pattern)").go("insert(0, 0, 2, 0)", "put(0, 0, 0, 2, 1)", "copy(0)", "rule(1, 1)",
            "region(0, 0, 0, 1, 1)");
        for (String p : new String[] {"-1", "2", "16", "MIN", "MAX"}) {
            run.refuses("insert(" + p + ", 0, 1, 0)", "remove(" + p + ", 0)", "move(" + p + ", 0, 0)",
                "put(" + p + ", 0, 0, 0, 0)", "put(" + p + ", 0, 0, -1, 0)", "shade(" + p + ", 0, 0, 1)",
                "at(" + p + ", 0, 0, 0)", "row(" + p + ", 0, 0)", "shares(" + p + ", 0, 0, 0)", "shares(0, 0, " + p + ", 0)",
                "shares(" + p + ", 0, " + p + ", 0)", "copy(" + p + ")", "region(" + p + ", 0, 0, 1, 1)",
                "paste(" + p + ", 0, 0)", "grow(" + p + ", 0, 1)", "count(" + p + ", 0)", "count(" + p + ", -1)",
                "fits(" + p + ")", "period(" + p + ", 0)", "kept(" + p + ")", "congruent(" + p + ", 0)",
                "congruent(0, " + p + ")", "find(" + p + ", 0, 0)", "find(0, " + p + ", 0)");
        }
        run.go("put(1, 0, 0, 0, 0)", "copy(1)");
    }

    private static void sixtyRows() {
        Run run = run("have 0 to 60 ROWS");
        for (int i = 0; i < 60; i++) {
            run.go("insert(0, " + i + ", 1, 0)");
        }
        run.refuses("insert(0, 0, 1, 0)", "insert(0, 59, 1, 0)", "insert(0, 60, 1, 0)", "insert(0, 61, 1, 0)");
        run.due("row(0, 59, 0)", 1).refuses("row(0, 60, 0)").go("put(0, 59, 0, 2, 3)", "copy(0)").due("at(1, 59, 0, 1)", 3);
        run.refuses("insert(1, 0, 1, 0)").go("remove(0, 0)", "insert(0, 59, 2, 0)").refuses("insert(0, 0, 1, 0)")
            .due("row(0, 59, 0)", 2);
    }

    private static void lengths() {
        Run run = run("each of a LENGTH 0 .. 60").go("insert(0, 0, 0, 0)", "insert(0, 1, 60, 0)");
        run.due("row(0, 0, 0)", 0).due("row(0, 1, 0)", 60);
        run.refuses("insert(0, 0, -1, 0)", "insert(0, 0, 61, 0)", "insert(0, 0, MIN, 0)", "insert(0, 0, MAX, 0)");
        run.due("at(0, 0, 0, 0)", -2).refuses("put(0, 0, 0, 0, 0)", "put(0, 0, -1, 0, 0)");
        run.go("put(0, 1, 59, 0, 0)").refuses("put(0, 1, 60, 0, 0)");
    }

    private static void offsets() {
        Run run = run("an OFFSET -30 .. 30").go("insert(0, 0, 1, -30)", "insert(0, 1, 1, 30)", "insert(0, 2, 60, 30)");
        run.due("row(0, 0, 1)", -30).due("row(0, 1, 1)", 30);
        run.refuses("insert(0, 0, 1, -31)", "insert(0, 0, 1, 31)", "insert(0, 0, 0, 31)", "insert(0, 0, 1, MIN)",
            "insert(0, 0, 1, MAX)");
        run.go("put(0, 0, -30, 0, 0)", "put(0, 1, 30, 0, 0)", "put(0, 2, 89, 0, 0)")
            .refuses("put(0, 2, 90, 0, 0)", "put(0, 2, 29, 0, 0)");
    }

    private static void cellsFromOffsetOn() {
        Run run = run("it has the CELLS (i, j) with OFFSET <= j < OFFSET + LENGTH; others are none")
            .go("insert(0, 0, 3, -2)", "insert(0, 1, 2, 5)");
        for (int j = -2; j < 1; j++) {
            run.go("put(0, 0, " + j + ", 0, 0)", "shade(0, 0, " + j + ", 1)").due("at(0, 0, " + j + ", 0)", 0);
        }
        run.go("put(0, 1, 5, 0, 0)", "put(0, 1, 6, 0, 0)");
        for (String place : new String[] {"0, -3", "0, 1", "1, 4", "1, 7", "1, 0", "-1, 0", "2, 5", "0, MIN", "0, MAX", "MIN, 0",
            "MAX, 0", "MAX, MAX"}) {
            run.refuses("put(0, " + place + ", 0, 0)", "put(0, " + place + ", -1, 0)", "shade(0, " + place + ", 1)");
            run.tells(-2, "at(0, " + place + ", 0)").tells(0, "at(0, " + place + ", 1)", "at(0, " + place + ", 2)");
        }
    }

    private static void newOnesAreEmpty() {
        Run run = run("New ones are EMPTY").go("insert(0, 0, 60, -30)").due("count(0, -1)", 60);
        run.due("at(0, 0, -30, 0)", -1).due("at(0, 0, 29, 0)", -1).due("at(0, 0, 29, 1)", 0).due("at(0, 0, 29, 2)", 0);
    }

    private static void insertedAheadOrBehind() {
        Run run = run("A ROW of EMPTY ones comes ahead of row i (or behind all)");
        run.refuses("insert(0, -1, 1, 0)", "insert(0, 1, 1, 0)", "insert(0, MIN, 1, 0)", "insert(0, MAX, 1, 0)");
        run.go("insert(0, 0, 1, 0)", "insert(0, 0, 2, 0)", "insert(0, 2, 3, 0)", "insert(0, 1, 4, 0)");
        run.refuses("insert(0, -1, 1, 0)", "insert(0, 5, 1, 0)");
        lengths(run, 2, 4, 1, 3);
        run.due("about(4)", 4).due("about(7)", 4);
    }

    private static void lengths(Run run, int... want) {
        for (int i = 0; i < want.length; i++) {
            run.due("row(0, " + i + ", 0)", want[i]);
        }
        run.refuses("row(0, " + want.length + ", 0)");
    }

    private static void removed() {
        Run run = run("Row i goes").go("insert(0, 0, 1, 0)", "insert(0, 1, 2, 0)", "insert(0, 2, 3, 0)");
        run.refuses("remove(0, -1)", "remove(0, 3)", "remove(0, MIN)", "remove(0, MAX)");
        run.go("remove(0, 2)");
        lengths(run, 1, 2);
        run.refuses("remove(0, 2)").go("remove(0, 0)");
        lengths(run, 2);
        run.go("remove(0, 0)").refuses("remove(0, 0)").due("about(4)", 3);
    }

    private static void moved() {
        Run run = run("Row i comes to stand at place \"to\" (among those that are left)");
        run.go("insert(0, 0, 1, 0)", "insert(0, 1, 2, 0)", "insert(0, 2, 3, 0)");
        run.refuses("move(0, -1, 0)", "move(0, 3, 0)", "move(0, 0, -1)", "move(0, 0, 3)", "move(0, 3, 3)", "move(0, MIN, 0)",
            "move(0, MAX, 0)", "move(0, 0, MIN)", "move(0, 0, MAX)");
        run.go("move(0, 0, 2)");
        lengths(run, 2, 3, 1);
        run.go("move(0, 2, 0)");
        lengths(run, 1, 2, 3);
        run.go("move(0, 0, 1)");
        lengths(run, 2, 1, 3);
        run.go("move(0, 2, 2)").due("about(7)", 7).due("about(4)", 3);
        lengths(run, 2, 1, 3);
        run.go("remove(0, 0)", "remove(0, 0)", "move(0, 0, 0)").refuses("move(0, 0, 1)", "move(0, 1, 0)");
    }

    private static void kindsThatArePut() {
        Run run = run("A CELL: a kind (kind NONE: EMPTY)").go("insert(0, 0, 2, 0)", "put(0, 0, 0, 0, 0)", "put(0, 0, 1, 2, 0)");
        run.refuses("put(0, 0, 0, -2, 0)", "put(0, 0, 0, 3, 0)", "put(0, 0, 0, 40, 0)", "put(0, 0, 0, MIN, 0)",
            "put(0, 0, 0, MAX, 0)");
        run.go("put(0, 0, 0, -1, 0)").due("at(0, 0, 0, 0)", -1).due("at(0, 0, 1, 0)", 2);
    }

    private static void movesThatArePut() {
        Run run = run("a kind in a MOVE (0 .. 7)").go("insert(0, 0, 2, 0)", "put(0, 0, 0, 2, 0)", "put(0, 0, 1, 2, 7)");
        run.due("at(0, 0, 0, 1)", 0).due("at(0, 0, 1, 1)", 7);
        run.refuses("put(0, 0, 0, 2, -1)", "put(0, 0, 0, 2, 8)", "put(0, 0, 0, 0, 8)", "put(0, 0, 0, 2, MIN)",
            "put(0, 0, 0, 2, MAX)");
    }

    private static void emptyWithAnyMove() {
        Run run = run("kind NONE: EMPTY; the MOVE does not count then").go("insert(0, 0, 1, 0)");
        for (String move : new String[] {"-1", "8", "MIN", "MAX"}) {
            run.go("put(0, 0, 0, 2, 5)", "put(0, 0, 0, -1, " + move + ")");
            run.due("at(0, 0, 0, 0)", -1).due("at(0, 0, 0, 1)", 0).due("at(0, 0, 0, 2)", 0);
        }
    }

    private static void putHasShadeNone() {
        Run run = run("SHADE 0").go("insert(0, 0, 1, 0)", "put(0, 0, 0, 2, 5)", "shade(0, 0, 0, 77)", "put(0, 0, 0, 2, 5)")
            .due("at(0, 0, 0, 2)", 0);
        run.go("shade(0, 0, 0, -32768)", "put(0, 0, 0, -1, 0)").due("at(0, 0, 0, 2)", 0).go("put(0, 0, 0, 1, 0)")
            .due("at(0, 0, 0, 2)", 0);
    }

    private static void liesAsItLies() {
        Run run = run("so a MOVE that is asked for becomes that one").go("insert(0, 0, 3, 0)");
        for (int m = 0; m < 8; m++) {
            run.go("put(0, 0, 0, 0, " + m + ")", "put(0, 0, 1, 1, " + m + ")", "put(0, 0, 2, 2, " + m + ")");
            run.due("at(0, 0, 0, 1)", 0).due("at(0, 0, 1, 1)", m % 2).due("at(0, 0, 2, 1)", m);
        }
    }

    private static void shadesGoRound() {
        Run run = run("The SHADE becomes the lowest 16 bits of s, with sign (-32768 .. 32767)")
            .go("insert(0, 0, 1, 0)", "put(0, 0, 0, 2, 6)");
        long[][] told = {{0, 0}, {1, 1}, {-1, -1}, {32767, 32767}, {32768, -32768}, {-32768, -32768}, {-32769, 32767}, {65535,
            -1}, {65536, 0}, {65537, 1}, {-65536, 0}, {-65537, -1}, {Integer.MAX_VALUE, -1}, {Integer.MIN_VALUE, 0}, {0x12348001,
            -32767}};
        for (long[] t : told) {
            run.go("shade(0, 0, 0, " + t[0] + ")").due("at(0, 0, 0, 2)", t[1]).due("at(0, 0, 0, 0)", 2).due("at(0, 0, 0, 1)", 6);
        }
    }

    private static void shadedOnesAreNotEmpty() {
        Run run = run("The SHADE of a CELL that is not EMPTY").go("insert(0, 0, 2, 0)", "put(0, 0, 1, 0, 0)");
        run.refuses("shade(0, 0, 0, 0)", "shade(0, 0, 0, 5)", "shade(0, 0, 0, -1)", "shade(0, 0, 2, 5)")
            .go("shade(0, 0, 1, 5)", "put(0, 0, 1, -1, 0)");
        run.refuses("shade(0, 0, 1, 5)");
    }

    private static void whatOfACell() {
        Run run = run("Of a CELL what 0, 1, 2 (0 if it has none). NONE: refused (no such pattern or what)");
        run.go("insert(0, 0, 2, 0)", "put(0, 0, 0, 2, 7)", "shade(0, 0, 0, -5)");
        run.due("at(0, 0, 0, 0)", 2).due("at(0, 0, 0, 1)", 7).due("at(0, 0, 0, 2)", -5);
        run.due("at(0, 0, 1, 0)", -1).due("at(0, 0, 1, 1)", 0).due("at(0, 0, 1, 2)", 0);
        run.due("at(0, 0, 2, 0)", -2).due("at(0, 0, 2, 1)", 0).due("at(0, 0, 2, 2)", 0);
        run.refuses("at(0, 0, 0, -1)", "at(0, 0, 0, 3)", "at(0, 0, 0, MIN)", "at(0, 0, 0, MAX)", "at(0, 0, 2, 3)",
            "at(0, 9, 0, -1)");
    }

    private static void whatOfARow() {
        Run run = run("Of row i what 0: LENGTH, 1: OFFSET, 2: places. NONE: refused")
            .go("insert(0, 0, 4, -7)", "insert(0, 1, 6, 8)");
        run.due("row(0, 0, 0)", 4).due("row(0, 0, 1)", -7).due("row(0, 0, 2)", 1).due("row(0, 1, 0)", 6).due("row(0, 1, 1)", 8);
        run.refuses("row(0, -1, 0)", "row(0, 2, 0)", "row(0, -1, 2)", "row(0, 2, 2)", "row(0, MIN, 0)", "row(0, MAX, 0)",
            "row(0, 0, -1)", "row(0, 0, 3)", "row(0, 0, MIN)", "row(0, 0, MAX)");
    }

    private static void placesOfARow() {
        Run run = run("at how many places of all patterns it is this same row").go("insert(0, 0, 1, 0)", "insert(0, 1, 1, 0)")
            .times(15, "copy(0)");
        run.due("row(0, 0, 2)", 16).due("row(15, 1, 2)", 16).go("remove(15, 0)").due("row(0, 0, 2)", 15).due("row(15, 0, 2)", 16);
        run.go("put(0, 0, 0, -1, 0)").due("row(0, 0, 2)", 1).due("row(1, 0, 2)", 14).go("undo()").due("row(0, 0, 2)", 15);
        run.go("undo()").due("row(0, 0, 2)", 16).go("move(3, 0, 1)").due("row(3, 1, 2)", 16);
    }

    private static void veryRows() {
        Run run = run("Whether two are the very same row").go("insert(0, 0, 1, 0)", "insert(0, 1, 1, 0)", "copy(0)");
        run.due("shares(0, 0, 0, 0)", 1).due("shares(0, 0, 1, 0)", 1).due("shares(1, 1, 0, 1)", 1).due("shares(0, 0, 1, 1)", 0)
            .due("shares(0, 0, 0, 1)", 0);
        run.refuses("shares(0, -1, 1, -1)", "shares(0, 2, 1, 2)", "shares(0, -1, 0, 0)", "shares(0, 0, 0, -1)",
            "shares(0, 2, 0, 0)", "shares(0, 0, 1, 2)", "shares(0, MIN, 0, MIN)", "shares(0, MAX, 0, MAX)", "shares(2, 0, 2, 0)");
    }

    private static void copies() {
        Run run = run("A new pattern with the very rows").due("copy(0)", 1).refuses("row(1, 0, 0)")
            .go("insert(0, 0, 3, -3)", "put(0, 0, -1, 2, 5)");
        run.refuses("row(1, 0, 0)").due("copy(0)", 2).due("shares(0, 0, 2, 0)", 1).due("about(4)", 2).due("about(7)", 2);
        run.due("copy(2)", 3).due("row(3, 0, 2)", 3).go("put(0, 0, -1, 0, 0)").due("at(2, 0, -1, 1)", 5)
            .due("at(3, 0, -1, 0)", 2);
    }

    private static void ownRowsOfPutAndShade() {
        Run run = run("a new row of its own (even if nothing else holds it, and all CELLS stay ALIKE)")
            .go("insert(0, 0, 2, 0)", "insert(0, 1, 2, 0)");
        run.go("put(0, 0, 0, -1, 0)").due("about(4)", 3).go("put(0, 0, 0, 2, 1)", "put(0, 0, 0, 2, 1)").due("about(4)", 5);
        run.go("shade(0, 0, 0, 0)").due("about(4)", 6).go("copy(0)", "shade(1, 0, 0, 65536)").due("about(4)", 7);
        run.due("shares(0, 0, 1, 0)", 0).due("shares(0, 1, 1, 1)", 1).due("row(1, 0, 2)", 1).due("row(0, 1, 2)", 2);
    }

    private static void ownRowsOfPaste() {
        Run run = run("in the place of each ROW in which it sets one")
            .go("insert(0, 0, 1, 0)", "insert(0, 1, 1, 4)", "insert(0, 2, 1, 0)", "copy(0)");
        run.go("region(0, 0, 0, 3, 1)").due("paste(1, 0, 0)", 2).due("about(4)", 5);
        run.due("shares(0, 0, 1, 0)", 0).due("shares(0, 1, 1, 1)", 1).due("shares(0, 2, 1, 2)", 0);
    }

    private static void rowsAreNotGivenBack() {
        Run run = run("ROWS MADE are counted").go("insert(0, 0, 1, 0)", "put(0, 0, 0, 0, 0)", "remove(0, 0)").due("about(4)", 2);
        run.go("undo()", "undo()", "undo()").due("about(4)", 2).go("insert(0, 0, 1, 0)").due("about(4)", 3);
    }

    private static void rowsOfWhatComesAtTheEnd() {
        Run run = run("grow for each ROW of what comes at the end").go("rule(2, 3)", "insert(0, 0, 1, 0)", "insert(0, 1, 1, 0)");
        run.due("grow(0, 0, 0)", 1).due("about(4)", 4).due("grow(0, 0, 1)", 2).due("about(4)", 8);
        run.due("grow(0, 0, 2)", 3).due("about(4)", 16).due("grow(0, 0, 3)", 4).due("about(4)", 32);
        run.refuses("grow(0, 0, 4)", "grow(0, 0, 5)").due("about(4)", 32);
    }

    /** 20 rows of one CELL that is not EMPTY, THE REGION of them all, two rules; 5999 ROWS are made then, if none is left out. */
    private static Run nearlyAll(String sentence, int fewer) {
        Run run = run(sentence).go("rule(1, 1)", "rule(2, 1)");
        for (int i = 0; i < 20; i++) {
            run.go("insert(0, " + i + ", 1, 0)");
        }
        run.go("put(0, 0, 0, 0, 0)", "region(0, 0, 0, 20, 1)").times(298, "paste(0, 0, 0)");
        run.due("about(4)", 5981);
        return run.due("paste(0, " + (2 + fewer) + ", 0)", 18 - fewer).due("about(4)", 5999 - fewer);
    }

    private static void theLastOfSixThousand() {
        String[] last = {"insert(0, 0, 0, 0)", "put(0, 0, 0, -1, 0)", "shade(0, 0, 0, 1)", "paste(0, 19, 0)", "grow(1, 0, 0)"};
        for (String call : last) {
            Run run = nearlyAll("ROWS MADE are counted, 6,000 at most", 1).go("pattern()", "insert(1, 0, 1, 0)")
                .due("about(4)", 5999);
            run.go(call).due("about(4)", 6000);
            run.refuses("insert(0, 0, 0, 0)", "put(0, 0, 0, -1, 0)", "put(0, 0, 0, 0, 0)", "shade(0, 0, 0, 1)",
                "paste(0, 19, 0)", "grow(1, 0, 0)");
        }
    }

    private static void moreThanAreLeft() {
        Run run = nearlyAll("a call that would make more than are left is refused", 1).go("pattern()").due("about(4)", 5998);
        run.refuses("paste(0, 17, 0)", "paste(0, 0, 0)", "paste(0, -17, 0)", "grow(0, 0, 0)");
        run.go("insert(1, 0, 1, 0)").refuses("paste(0, 18, 0)", "paste(0, -18, 0)", "grow(1, 1, 1)").go("grow(1, 0, 5)")
            .due("about(4)", 6000);
        run.refuses("insert(0, 20, 60, 30)");
    }

    private static void nothingNeededAtTheEnd() {
        Run run = nearlyAll("6,000 at most (what needs none goes)", 0).go("put(0, 0, 0, -1, 0)", "pattern()")
            .due("about(4)", 6000);
        run.due("paste(0, 20, 0)", 0).due("paste(0, 0, 1)", 0).due("paste(1, 0, 0)", 0).due("grow(1, 0, 5)", 2).due("copy(0)", 3);
        run.go("move(0, 0, 1)", "remove(0, 0)", "undo()", "turn(1)", "region(0, 0, 0, 20, 20)").due("about(4)", 6000);
    }
}
