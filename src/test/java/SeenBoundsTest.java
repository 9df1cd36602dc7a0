/** The sentences on what is SEEN of patterns (==== 5., promises 23 to 28) that name a boundary, each with a test of its own. */
public final class SeenBoundsTest {
    private static final String[] BASE = {"kind(0, 1, false, 1, 'a')", "kind(0x1111, 1, false, 1, 'b')",
        "kind(0x3210, 4, true, 1, 'c')", "kind(0x3210, 4, false, 1, 'd')"};

    private int patterns = 0;
    private final Run run;

    private SeenBoundsTest(String sentence) {
        run = new Run(sentence).go(BASE);
    }

    public static void main(String[] args) {
        countedKinds();
        countedEmptyOnes();
        fitsBesideAndBelow();
        fitsByColours();
        emptyFitsAll();
        placesAmongAllCells();
        fitsToTheRight();
        nothingBeside();
        fullOnes();
        periodsWithoutPairs();
        leastPeriods();
        greatestPeriods();
        periodsOfAlikeOnes();
        whatOfPeriods();
        keptByAll();
        keptByOtherShapes();
        congruentByTheLeast();
        congruentOnlyIfFull();
        foundFromZeroOn();
        foundInOrder();
        foundOnCellsThatAre();
        foundAtTheRims();
        foundByPlaces();
        foundAlike();
        soughtOnlyIfFull();
        greaterThanItsGround();
        Run.end("SeenBoundsTest");
    }

    /** A pattern of rows of kinds, each in MOVE 0, '.' for EMPTY; a row may begin with its OFFSET and a colon. */
    private int drawn(String... rows) {
        run.due("pattern()", patterns);
        for (int i = 0; i < rows.length; i++) {
            int colon = rows[i].indexOf(':');
            int offset = colon < 0 ? 0 : Integer.parseInt(rows[i].substring(0, colon));
            String cells = rows[i].substring(colon + 1);
            run.go("insert(" + patterns + ", " + i + ", " + cells.length() + ", " + offset + ")");
            for (int n = 0; n < cells.length(); n++) {
                if (cells.charAt(n) != '.') {
                    run.go("put(" + patterns + ", " + i + ", " + (offset + n) + ", " + cells.charAt(n) + ", 0)");
                }
            }
        }
        patterns++;
        return patterns - 1;
    }

    private static void countedKinds() {
        SeenBoundsTest t = new SeenBoundsTest("How many CELLS of a kind a pattern has. NONE: refused");
        t.drawn("0:03", "", "-30:3");
        t.run.due("count(0, 0)", 1).due("count(0, 3)", 2).due("count(0, 1)", 0);
        t.run.refuses("count(0, -2)", "count(0, 4)", "count(0, 40)", "count(0, MIN)", "count(0, MAX)", "count(-1, 0)",
            "count(1, 0)", "count(1, -1)");
        t.run.go("shade(0, 0, 1, 5)").due("count(0, 3)", 2);
    }

    private static void countedEmptyOnes() {
        SeenBoundsTest t = new SeenBoundsTest("(NONE: EMPTY ones)");
        int p = t.drawn();
        t.run.due("count(" + p + ", -1)", 0).due("count(" + p + ", 0)", 0);
        for (int i = 0; i < 60; i++) {
            t.run.go("insert(" + p + ", 0, 60, 30)");
        }
        t.run.due("count(" + p + ", -1)", 3600).go("put(" + p + ", 59, 89, 0, 0)").due("count(" + p + ", -1)", 3599)
            .due("count(" + p + ", 0)", 1);
    }

    private static void fitsBesideAndBelow() {
        SeenBoundsTest t = new SeenBoundsTest("Two CELLS FIT, if the colours of the edges that meet are alike");
        t.run.due("fits(" + t.drawn("00", "00") + ")", 0).due("fits(" + t.drawn("01") + ")", 1)
            .due("fits(" + t.drawn("0", "1") + ")", 2);
        t.run.due("fits(" + t.drawn("0.", ".1") + ")", 0).due("fits(" + t.drawn("10") + ")", 1)
            .due("fits(" + t.drawn("1", "0") + ")", 2);
        int turned = t.drawn("22");
        t.run.due("fits(" + turned + ")", 1).go("put(" + turned + ", 0, 1, 2, 2)").due("fits(" + turned + ")", 0);
        int p = t.drawn("21", "..");
        t.run.due("fits(" + p + ")", 0).go("put(" + p + ", 1, 0, 2, 2)").due("fits(" + p + ")", 0)
            .go("put(" + p + ", 1, 0, 2, 0)").due("fits(" + p + ")", 2);
        t.run.go("put(" + p + ", 0, 0, 2, 2)").due("fits(" + p + ")", 1).go("put(" + p + ", 0, 0, 2, 6)")
            .due("fits(" + p + ")", 0);
        t.run.refuses("fits(-1)", "fits(" + (p + 1) + ")", "fits(MIN)", "fits(MAX)");
    }

    private static void fitsByColours() {
        Run run = new Run("the colours of the edges that meet are alike (0 .. 15)")
            .go("kind(0xFFFF, 1, false, 0, 'a')", "kind(0xEEEE, 1, false, 0, 'b')", "kind(0, 1, false, 0, 'c')");
        run.go("pattern()", "insert(0, 0, 2, 0)", "put(0, 0, 0, 0, 0)", "put(0, 0, 1, 1, 0)").due("fits(0)", 1)
            .go("put(0, 0, 1, 2, 0)").due("fits(0)", 1);
        run.go("put(0, 0, 1, 0, 0)").due("fits(0)", 0);
    }

    private static void emptyFitsAll() {
        SeenBoundsTest t = new SeenBoundsTest("an EMPTY one fits all");
        t.run.due("fits(" + t.drawn("0.1", "...", "1.0") + ")", 0).due("fits(" + t.drawn("...", ".2.", "...") + ")", 0)
            .due("fits(" + t.drawn("..", "..") + ")", 0);
    }

    private static void placesAmongAllCells() {
        SeenBoundsTest t = new SeenBoundsTest("1 and, of the first CELL that does not, its place among all CELLS doubled");
        t.run.due("fits(" + t.drawn("....", "", "7:..", "01") + ")", 1 + 2 * 6)
            .due("fits(" + t.drawn("..01", "01..") + ")", 1 + 2 * 2);
        t.run.due("fits(" + t.drawn(".0.", "01.") + ")", 1 + 2 * 1 + 1);
        int p = t.drawn();
        for (int i = 0; i < 60; i++) {
            t.run.go("insert(" + p + ", 0, 60, 0)");
        }
        t.run.go("put(" + p + ", 59, 58, 0, 0)", "put(" + p + ", 59, 59, 1, 0)").due("fits(" + p + ")", 1 + 2 * 3598);
        t.run.go("put(" + p + ", 59, 58, -1, 0)", "put(" + p + ", 58, 59, 0, 0)").due("fits(" + p + ")", 1 + 2 * 3539 + 1);
    }

    private static void fitsToTheRight() {
        SeenBoundsTest t = new SeenBoundsTest("and 1 more if it FITS to the right");
        t.run.due("fits(" + t.drawn("01", "00") + ")", 1).due("fits(" + t.drawn("00", "10") + ")", 2)
            .due("fits(" + t.drawn("01", "10") + ")", 1);
        t.run.due("fits(" + t.drawn("0.", "1.") + ")", 2).due("fits(" + t.drawn("0", "1") + ")", 2);
    }

    private static void nothingBeside() {
        SeenBoundsTest t = new SeenBoundsTest("those to the right and below (where there are none)");
        t.run.due("fits(" + t.drawn() + ")", 0).due("fits(" + t.drawn("2") + ")", 0).due("fits(" + t.drawn("", "") + ")", 0);
        t.run.due("fits(" + t.drawn("0:0", "1:1") + ")", 0).due("fits(" + t.drawn("1:1", "0:0") + ")", 0)
            .due("fits(" + t.drawn("-1:00", "-2:11") + ")", 1 + 1);
        t.run.due("fits(" + t.drawn("5:0", "", "5:1") + ")", 0).due("fits(" + t.drawn("0", "000", "..1") + ")", 1 + 2 * 3 + 1);
    }

    private static void fullOnes() {
        SeenBoundsTest t = new SeenBoundsTest("FULL if it has a ROW, all its ROWS have OFFSET 0 and one LENGTH above 0");
        t.run.due("kept(" + t.drawn() + ")", 0).due("kept(" + t.drawn("") + ")", 0).due("kept(" + t.drawn("", "") + ")", 0)
            .due("kept(" + t.drawn("0", "") + ")", 0);
        t.run.due("kept(" + t.drawn("00", "0") + ")", 0).due("kept(" + t.drawn("0", "00") + ")", 0)
            .due("kept(" + t.drawn("1:0") + ")", 0).due("kept(" + t.drawn("-1:0") + ")", 0);
        t.run.due("kept(" + t.drawn("0", "1:0") + ")", 0).due("kept(" + t.drawn("30:0", "0") + ")", 0)
            .due("kept(" + t.drawn("0") + ")", 255).due("kept(" + t.drawn(".") + ")", 255);
        t.run.refuses("kept(-1)", "kept(12)", "kept(MIN)", "kept(MAX)");
    }

    private static void periodsWithoutPairs() {
        SeenBoundsTest t = new SeenBoundsTest("PERIOD: the least a from 1 on (there are no two CELLS)");
        for (int p : new int[] {t.drawn(), t.drawn("2"), t.drawn("", ""), t.drawn("5:0", "4:1")}) {
            t.run.due("period(" + p + ", 0)", 1).due("period(" + p + ", 1)", 1);
        }
        int q = t.drawn("0:0", "30:1", "0:1");
        t.run.due("period(" + q + ", 0)", 1).due("period(" + q + ", 1)", 1);
    }

    private static void leastPeriods() {
        SeenBoundsTest t = new SeenBoundsTest("all CELLS (i, j), (i + a, j) that are both there; of columns likewise");
        int p = t.drawn("010", "101", "010");
        t.run.due("period(" + p + ", 0)", 2).due("period(" + p + ", 1)", 2).go("put(" + p + ", 2, 2, 1, 0)")
            .due("period(" + p + ", 0)", 3).due("period(" + p + ", 1)", 3);
        int q = t.drawn("000", "000");
        t.run.due("period(" + q + ", 0)", 1).due("period(" + q + ", 1)", 1);
        int r = t.drawn("0011", "0011");
        t.run.due("period(" + r + ", 0)", 1).due("period(" + r + ", 1)", 4);
        // Columns are told by j, not by places: 0 lies above 0, and 1 above 1.
        int s = t.drawn("-1:001", "0:01");
        t.run.due("period(" + s + ", 0)", 1).due("period(" + s + ", 1)", 3);
    }

    private static void greatestPeriods() {
        SeenBoundsTest t = new SeenBoundsTest("PERIOD (60 ROWS, LENGTH 60)");
        int p = t.drawn("0".repeat(59) + "1");
        t.run.due("period(" + p + ", 1)", 60).due("period(" + p + ", 0)", 1).go("put(" + p + ", 0, 0, 1, 0)")
            .due("period(" + p + ", 1)", 59);
        int q = t.drawn();
        for (int i = 0; i < 60; i++) {
            t.run.go("insert(" + q + ", 0, 1, -30)");
        }
        t.run.go("put(" + q + ", 59, -30, 2, 1)").due("period(" + q + ", 0)", 60).go("put(" + q + ", 0, -30, 2, 1)")
            .due("period(" + q + ", 0)", 59).due("period(" + q + ", 1)", 1);
    }

    private static void periodsOfAlikeOnes() {
        SeenBoundsTest t = new SeenBoundsTest("ALIKE if all three are the same, or both are EMPTY");
        int p = t.drawn("22");
        t.run.due("period(" + p + ", 1)", 1).go("shade(" + p + ", 0, 1, 1)").due("period(" + p + ", 1)", 2)
            .go("shade(" + p + ", 0, 1, 65536)").due("period(" + p + ", 1)", 1);
        t.run.go("put(" + p + ", 0, 1, 2, 4)").due("period(" + p + ", 1)", 2).go("put(" + p + ", 0, 1, 3, 0)")
            .due("period(" + p + ", 1)", 2);
        t.run.go("put(" + p + ", 0, 1, -1, 0)").due("period(" + p + ", 1)", 2).go("put(" + p + ", 0, 0, -1, 0)")
            .due("period(" + p + ", 1)", 1);
        int q = t.drawn("0.");
        t.run.due("period(" + q + ", 1)", 2);
    }

    private static void whatOfPeriods() {
        SeenBoundsTest t = new SeenBoundsTest("PERIOD of rows (0), of columns (1). NONE: refused");
        t.drawn("01");
        t.run.due("period(0, 0)", 1).due("period(0, 1)", 2);
        t.run.refuses("period(0, -1)", "period(0, 2)", "period(0, MIN)", "period(0, MAX)", "period(-1, 0)", "period(1, 0)",
            "period(1, 1)");
    }

    private static void keptByAll() {
        SeenBoundsTest t = new SeenBoundsTest("The MOVES that keep a pattern as bits");
        t.run.due("kept(" + t.drawn("2") + ")", 1).due("kept(" + t.drawn("3") + ")", 0x11)
            .due("kept(" + t.drawn("010", "1.1", "010") + ")", 255);
        t.run.due("kept(" + t.drawn(".0..", "...0", "0...", "..0.") + ")", 0x0F).due("kept(" + t.drawn("0.", ".1") + ")", 0x81)
            .due("kept(" + t.drawn("01", "01") + ")", 0x41);
        t.run.due("kept(" + t.drawn("01", "10") + ")", 0xA5).due("kept(" + t.drawn("01", "..") + ")", 1);
    }

    private static void keptByOtherShapes() {
        SeenBoundsTest t = new SeenBoundsTest("of other rows and columns: no");
        t.run.due("kept(" + t.drawn("00") + ")", 0x55).due("kept(" + t.drawn("0", "0") + ")", 0x55)
            .due("kept(" + t.drawn("00", "00", "00") + ")", 0x55).due("kept(" + t.drawn("00", "00") + ")", 255);
        int p = t.drawn();
        for (int i = 0; i < 60; i++) {
            t.run.go("insert(" + p + ", 0, 60, 0)");
        }
        t.run.due("kept(" + p + ")", 255).go("put(" + p + ", 59, 59, 0, 0)").due("kept(" + p + ")", 0x81)
            .go("remove(" + p + ", 0)").due("kept(" + p + ")", 1);
    }

    private static void congruentByTheLeast() {
        SeenBoundsTest t = new SeenBoundsTest("The least MOVE by which p is q");
        int p = t.drawn("01", "..");
        String[][] moved = {{"01", ".."}, {".0", ".1"}, {"..", "10"}, {"1.", "0."}, {"10", ".."}, {".1", ".0"}, {"..", "01"},
            {"0.", "1."}};
        for (int m = 0; m < 8; m++) {
            t.run.due("congruent(" + p + ", " + t.drawn(moved[m]) + ")", m);
        }
        int line = t.drawn("000");
        t.run.due("congruent(" + line + ", " + line + ")", 0).due("congruent(" + line + ", " + t.drawn("0", "0", "0") + ")", 1);
        int u = t.drawn("2");
        t.run.due("congruent(" + u + ", " + u + ")", 0).go("copy(" + u + ")", "put(" + (u + 1) + ", 0, 0, 2, 7)")
            .due("congruent(" + u + ", " + (u + 1) + ")", 7);
        t.run.go("put(" + (u + 1) + ", 0, 0, 3, 0)").due("congruent(" + u + ", " + (u + 1) + ")", -1);
    }

    private static void congruentOnlyIfFull() {
        SeenBoundsTest t = new SeenBoundsTest("both FULL; NONE without one, or refused");
        int full = t.drawn("0");
        int square = t.drawn("00", "00");
        int part = t.drawn("00", "000");
        t.run.refuses("congruent(" + square + ", " + part + ")", "congruent(" + part + ", " + square + ")",
            "congruent(" + part + ", " + part + ")");
        for (int p : new int[] {t.drawn(), t.drawn(""), t.drawn("1:0"), t.drawn("0", "00"), t.drawn("1"), t.drawn("00"),
            t.drawn("0", "0"), t.drawn(".")}) {
            t.run.refuses("congruent(" + full + ", " + p + ")", "congruent(" + p + ", " + full + ")");
        }
        t.run.refuses("congruent(3, 3)", "congruent(4, 4)", "congruent(5, 5)", "congruent(6, 6)", "congruent(-1, 0)",
            "congruent(0, -1)", "congruent(0, 11)", "congruent(11, 0)", "congruent(MIN, MIN)", "congruent(MAX, MAX)")
            .due("congruent(0, 0)", 0);
    }

    private static void foundFromZeroOn() {
        SeenBoundsTest t = new SeenBoundsTest("The k-th place (from 0 on); NONE without one, or refused");
        int p = t.drawn("2.", ".2");
        int q = t.drawn("2");
        t.run.due("find(" + p + ", " + q + ", 0)", 0).due("find(" + p + ", " + q + ", 1)", 1010);
        t.run.refuses("find(0, 1, 2)", "find(0, 1, -1)", "find(0, 1, MIN)", "find(0, 1, MAX)", "find(-1, 1, 0)", "find(2, 1, 0)",
            "find(0, -1, 0)", "find(0, 2, 0)");
        t.run.refuses("find(" + p + ", " + t.drawn("1") + ", 0)");
    }

    private static void foundInOrder() {
        SeenBoundsTest t = new SeenBoundsTest("FOUND ones are in order by i, then j, then m");
        int p = t.drawn("00", "00");
        int q = t.drawn("0");
        for (int k = 0; k < 32; k++) {
            t.run.due("find(" + p + ", " + q + ", " + k + ")", 1000 * (k / 16) + 10 * (k / 8 % 2) + k % 8);
        }
        t.run.refuses("find(" + p + ", " + q + ", 32)");
        int line = t.drawn("00");
        int[] want = {0, 1, 2, 3, 4, 5, 6, 7, 11, 13, 15, 17, 1000, 1002, 1004, 1006};
        for (int k = 0; k < want.length; k++) {
            t.run.due("find(" + p + ", " + line + ", " + k + ")", want[k]);
        }
        t.run.refuses("find(" + p + ", " + line + ", 16)");
    }

    private static void foundOnCellsThatAre() {
        SeenBoundsTest t = new SeenBoundsTest("on CELLS of p that are all there");
        int p = t.drawn("0:...", "1:...", "", "0:..");
        int square = t.drawn("..", "..");
        t.run.due("find(" + p + ", " + square + ", 0)", 10).due("find(" + p + ", " + square + ", 7)", 17)
            .refuses("find(" + p + ", " + square + ", 8)");
        int column = t.drawn(".", ".", ".");
        t.run.due("find(" + p + ", " + column + ", 0)", 1).due("find(" + p + ", " + column + ", 7)", 1007)
            .refuses("find(" + p + ", " + column + ", 8)");
        t.run.due("find(" + p + ", " + t.drawn("...") + ", 3)", 6).refuses("find(" + p + ", " + t.drawn("....") + ", 0)");
    }

    private static void foundAtTheRims() {
        SeenBoundsTest t = new SeenBoundsTest("with its first CELL at (i, j) (the first and the last one)");
        int p = t.drawn("1..", "...", "..1");
        int q = t.drawn("1");
        t.run.due("find(" + p + ", " + q + ", 0)", 0).due("find(" + p + ", " + q + ", 15)", 2027)
            .refuses("find(" + p + ", " + q + ", 16)");
        int corner = t.drawn("1.", "..");
        t.run.due("find(" + p + ", " + corner + ", 0)", 0).due("find(" + p + ", " + corner + ", 1)", 7)
            .due("find(" + p + ", " + corner + ", 2)", 1012);
        t.run.due("find(" + p + ", " + corner + ", 3)", 1015).refuses("find(" + p + ", " + corner + ", 4)");
        t.run.due("find(" + p + ", " + p + ", 0)", 0).due("find(" + p + ", " + p + ", 3)", 7)
            .refuses("find(" + p + ", " + p + ", 4)");
        int great = t.drawn();
        for (int i = 0; i < 60; i++) {
            t.run.go("insert(" + great + ", 0, 60, 30)");
        }
        t.run.go("put(" + great + ", 59, 89, 1, 0)").due("find(" + great + ", " + q + ", 7)", 59597)
            .refuses("find(" + great + ", " + q + ", 8)");
    }

    private static void foundByPlaces() {
        SeenBoundsTest t = new SeenBoundsTest("with i, j as rows and places in them (from 0 on)");
        int p = t.drawn("-30:..2", "30:2..");
        int q = t.drawn("2");
        t.run.due("find(" + p + ", " + q + ", 0)", 20).due("find(" + p + ", " + q + ", 1)", 1000)
            .refuses("find(" + p + ", " + q + ", 2)");
        int r = t.drawn("-2:..2", "0:2.");
        t.run.due("find(" + r + ", " + t.drawn("2", "2") + ", 0)", 20);
    }

    private static void foundAlike() {
        SeenBoundsTest t = new SeenBoundsTest("on CELLS of p that are ALIKE");
        int p = t.drawn("2");
        int q = t.drawn("2");
        for (int m = 0; m < 8; m++) {
            t.run.go("put(" + p + ", 0, 0, 2, " + m + ")").due("find(" + p + ", " + q + ", 0)", m)
                .refuses("find(" + p + ", " + q + ", 1)");
        }
        t.run.go("shade(" + p + ", 0, 0, 1)").refuses("find(" + p + ", " + q + ", 0)").go("put(" + p + ", 0, 0, -1, 0)")
            .refuses("find(" + p + ", " + q + ", 0)");
        t.run.due("find(" + p + ", " + t.drawn(".") + ", 7)", 7).go("put(" + p + ", 0, 0, 3, 1)")
            .refuses("find(" + p + ", " + q + ", 0)");
    }

    private static void soughtOnlyIfFull() {
        SeenBoundsTest t = new SeenBoundsTest("refused (q not FULL)");
        int p = t.drawn("00", "00");
        for (int q : new int[] {t.drawn(), t.drawn(""), t.drawn("1:0"), t.drawn("-1:0"), t.drawn("0", "00"), t.drawn("0",
            "1:0")}) {
            t.run.refuses("find(" + p + ", " + q + ", 0)", "find(" + q + ", " + q + ", 0)");
        }
        int q = t.drawn("0");
        t.run.due("find(3, " + q + ", 0)", 0).due("find(5, " + q + ", 8)", 1000)
            .refuses("find(1, " + q + ", 0)", "find(2, " + q + ", 0)");
    }

    private static void greaterThanItsGround() {
        SeenBoundsTest t = new SeenBoundsTest("q MOVED by m lies on CELLS of p (it is greater)");
        int p = t.drawn("..", "..", "..");
        t.run.due("find(" + p + ", " + t.drawn("...") + ", 0)", 1).due("find(" + p + ", " + t.drawn("...", "...") + ", 3)", 7);
        t.run.refuses("find(" + p + ", " + t.drawn("....") + ", 0)", "find(" + p + ", " + t.drawn("...", "...", "...") + ", 0)",
            "find(" + p + ", " + t.drawn("..", "..", "..", "..") + ", 0)");
        t.run.due("find(" + p + ", " + t.drawn("..", "..", "..") + ", 3)", 6).refuses("find(" + p + ", 6, 4)");
    }
}
