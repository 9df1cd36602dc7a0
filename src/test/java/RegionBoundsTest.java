/** The sentences on THE REGION (promises 16 to 18) and on MOVED blocks that name a boundary, each with a test of its own. */
public final class RegionBoundsTest {
    private static final String[] BASE = {"kind(0x3210, 4, true, 1, 'a')", "kind(0x3210, 4, false, 1, 'b')",
        "kind(0x1010, 2, true, 1, 'c')", "kind(0, 1, false, 1, 'd')", "pattern()"};

    public static void main(String[] args) {
        noneAtFirst();
        oneToTwenty();
        notEmptyOnesAreCounted();
        anyNumbers();
        asItWasTaken();
        refusedLeavesIt();
        movesOfTheRegion();
        mirroredAcross();
        turnedByAQuarter();
        turnsComeRound();
        thinBlocks();
        greatestBlock();
        cellsTurnedAsTheyLie();
        shadesStay();
        noneStaysNone();
        asFarAsThereAreCells();
        farAway();
        emptyOnesCome();
        nothingCame();
        readFirst();
        patternsWithoutRows();
        Run.end("RegionBoundsTest");
    }

    /** Kind 0 in two rows of three CELLS with SHADES 1 to 6; pattern 1 has four rows of four EMPTY ones. */
    private static Run run(String sentence) {
        Run run = new Run(sentence).go(BASE).go("insert(0, 0, 3, 0)", "insert(0, 1, 3, 0)", "pattern()");
        for (int n = 0; n < 6; n++) {
            run.go("put(0, " + n / 3 + ", " + n % 3 + ", 0, 0)", "shade(0, " + n / 3 + ", " + n % 3 + ", " + (n + 1) + ")");
        }
        for (int i = 0; i < 4; i++) {
            run.go("insert(1, " + i + ", 4, 0)");
        }
        return run;
    }

    private static void noneAtFirst() {
        Run run = run("THE REGION (one for all; none at first)");
        run.due("about(5)", 0).due("about(6)", 0).refuses("turn(0)", "turn(1)", "turn(7)", "turn(8)", "paste(0, 0, 0)",
            "paste(1, 9, 9)");
        run.go("region(0, 0, 0, 2, 3)").due("about(5)", 2).due("about(6)", 3).go("region(1, 0, 0, 4, 1)").due("about(5)", 4)
            .due("about(6)", 1);
    }

    private static void oneToTwenty() {
        Run run = run("R times C (1 .. 20 each)").go("region(0, 0, 0, 2, 3)");
        for (String wrong : new String[] {"0, 1", "1, 0", "0, 0", "-1, 1", "1, -1", "21, 1", "1, 21", "21, 21", "MIN, 1",
            "1, MIN", "MAX, 1", "1, MAX", "MAX, MAX"}) {
            run.refuses("region(0, 0, 0, " + wrong + ")");
        }
        run.due("region(0, 0, 0, 1, 1)", 1).due("about(5)", 1).due("about(6)", 1);
        run.due("region(0, 0, 0, 20, 20)", 6).due("about(5)", 20).due("about(6)", 20);
        run.due("region(0, 0, 0, 1, 20)", 3).due("about(6)", 20).due("region(0, 0, 0, 20, 1)", 2).due("about(5)", 20);
    }

    private static void notEmptyOnesAreCounted() {
        Run run = run("how many CELLS it has that are not EMPTY").due("region(1, 0, 0, 4, 4)", 0).due("region(1, 9, 9, 4, 4)", 0)
            .due("region(0, 0, 0, 2, 3)", 6);
        run.go("put(0, 1, 1, -1, 0)").due("region(0, 0, 0, 2, 3)", 5).go("put(1, 0, 0, 3, 0)").due("region(1, 0, 0, 1, 1)", 1);
    }

    private static void anyNumbers() {
        Run run = run("i, j are any numbers");
        run.due("region(0, -1, -2, 2, 3)", 1).due("region(0, 1, 2, 20, 20)", 1).due("region(0, -19, -19, 20, 20)", 1);
        run.due("region(0, -20, 0, 20, 20)", 0).due("region(0, 0, -20, 20, 20)", 0).due("region(0, 2, 0, 20, 20)", 0)
            .due("region(0, 0, 3, 20, 20)", 0);
        for (String far : new String[] {"MIN", "-2147483647", "-2147483629", "2147483628", "2147483627", "MAX"}) {
            run.due("region(0, " + far + ", 0, 20, 20)", 0).due("region(0, 0, " + far + ", 20, 20)", 0)
                .due("region(0, " + far + ", " + far + ", 20, 20)", 0);
        }
    }

    private static void asItWasTaken() {
        Run run = run("THE REGION is a block as it was taken").go("region(0, 0, 0, 2, 3)");
        run.go("put(0, 0, 0, 3, 0)", "shade(0, 0, 1, 99)", "remove(0, 1)").due("paste(1, 0, 0)", 6);
        run.due("at(1, 0, 0, 0)", 0).due("at(1, 0, 0, 2)", 1).due("at(1, 0, 1, 2)", 2).due("at(1, 1, 2, 2)", 6);
        run.go("undo()", "undo()").due("about(5)", 2).due("paste(1, 2, 1)", 6).due("at(1, 3, 3, 2)", 6);
    }

    private static void refusedLeavesIt() {
        Run run = run("it changes nothing then (region, turn, paste)").go("region(0, 0, 1, 2, 2)", "turn(1)");
        run.refuses("region(2, 0, 0, 1, 1)", "region(-1, 0, 0, 1, 1)", "region(0, 0, 0, 0, 5)", "region(0, 0, 0, 5, 21)",
            "turn(-1)", "turn(8)", "paste(2, 0, 0)", "paste(-1, 0, 0)");
    }

    private static void movesOfTheRegion() {
        Run run = run("THE REGION is MOVED (a MOVE is 0 .. 7)").go("region(0, 0, 0, 2, 3)");
        run.refuses("turn(-1)", "turn(8)", "turn(MIN)", "turn(MAX)").go("turn(0)").due("about(5)", 2).go("turn(7)")
            .due("about(5)", 3);
    }

    /** The SHADES of pattern 1 from above left on, row by row, in so many columns. */
    private static void shades(Run run, int columns, int... want) {
        for (int n = 0; n < want.length; n++) {
            run.due("at(1, " + n / columns + ", " + n % columns + ", 2)", want[n]);
        }
    }

    private static void mirroredAcross() {
        Run run = run("mirrored, what is at (i, j) comes to (i, C - 1 - j)").go("region(0, 0, 0, 2, 3)", "turn(4)")
            .due("about(5)", 2).due("paste(1, 0, 0)", 6);
        shades(run, 3, 3, 2, 1, 6, 5, 4);
        run.due("at(1, 0, 0, 1)", 4);
    }

    private static void turnedByAQuarter() {
        Run run = run("turned by one quarter, from (i, j) to (j, R - 1 - i), in a block of C rows")
            .go("region(0, 0, 0, 2, 3)", "turn(1)");
        run.due("about(5)", 3).due("about(6)", 2).due("paste(1, 0, 0)", 6);
        shades(run, 2, 4, 1, 5, 2, 6, 3);
        run.due("at(1, 0, 0, 1)", 1).go("region(0, 0, 0, 2, 3)", "turn(5)").due("paste(1, 0, 0)", 6);
        // First left and right are exchanged, then it is turned.
        shades(run, 2, 6, 3, 5, 2, 4, 1);
        run.go("region(0, 0, 0, 2, 3)", "turn(7)").due("paste(1, 0, 0)", 6);
        shades(run, 2, 1, 4, 2, 5, 3, 6);
        run.go("region(0, 0, 0, 2, 3)", "turn(3)").due("paste(1, 0, 0)", 6);
        shades(run, 2, 3, 6, 2, 5, 1, 4);
    }

    private static void turnsComeRound() {
        for (int m = 0; m < 8; m++) {
            int back = m < 4 ? (4 - m) % 4 : m;
            Run run = run("what is MOVED there and back is as it was")
                .go("region(0, 0, 0, 2, 3)", "turn(" + m + ")", "turn(" + back + ")");
            run.due("about(5)", 2).due("about(6)", 3).due("paste(1, 0, 0)", 6);
            shades(run, 3, 1, 2, 3, 4, 5, 6);
            run.due("at(1, 1, 2, 1)", 0);
        }
        Run run = run("four quarters come round").go("region(0, 0, 0, 2, 3)").times(4, "turn(1)").due("paste(1, 0, 0)", 6);
        shades(run, 3, 1, 2, 3, 4, 5, 6);
    }

    private static void thinBlocks() {
        Run run = run("Of a block of R rows and C columns (1 and 20)").go("region(0, 1, 2, 1, 1)", "turn(5)").due("about(5)", 1)
            .due("paste(1, 3, 3)", 1);
        run.due("at(1, 3, 3, 2)", 6).due("at(1, 3, 3, 1)", 5).go("region(0, 0, 0, 1, 20)", "turn(1)").due("about(5)", 20)
            .due("about(6)", 1);
        run.due("paste(1, 0, 0)", 3);
        shades(run, 4, 1, 0, 0, 0, 2, 0, 0, 0, 3, 0, 0, 0, 0, 0, 0, 6);
        run.go("turn(2)").due("about(5)", 20).due("paste(1, -17, 1)", 3).due("at(1, 0, 1, 2)", 3).due("at(1, 2, 1, 2)", 1);
        run.go("turn(7)").due("about(5)", 1).due("about(6)", 20);
    }

    private static void greatestBlock() {
        Run run = run("R times C (20 and 20)").go("pattern()");
        for (int i = 0; i < 20; i++) {
            run.go("insert(2, " + i + ", 20, 0)");
        }
        run.go("put(2, 0, 19, 0, 0)", "put(2, 19, 19, 0, 0)", "shade(2, 19, 19, 7)").due("region(2, 0, 0, 20, 20)", 2)
            .go("turn(1)").due("paste(2, 0, 0)", 400);
        run.due("at(2, 19, 19, 2)", 0).due("at(2, 19, 0, 2)", 7).due("at(2, 0, 19, 0)", -1).due("at(2, 19, 19, 1)", 1)
            .due("count(2, 0)", 2);
    }

    private static void cellsTurnedAsTheyLie() {
        Run run = run("MOVED by m a CELL's MOVE becomes (its MOVE THEN m), as it LIES");
        for (int m = 0; m < 8; m++) {
            int turns = (m % 4 + (m < 4 ? 3 : 1)) % 4;
            int mirrored = m < 4 ? 0 : 4;
            int[] want = {turns + mirrored, turns, turns % 2 + mirrored, 0};
            for (int k = 0; k < 4; k++) {
                run.go("put(1, 0, 0, " + k + ", 3)", "region(1, 0, 0, 1, 1)", "turn(" + m + ")", "paste(1, 1, 1)");
                run.due("at(1, 1, 1, 0)", k).due("at(1, 1, 1, 1)", want[k]);
            }
        }
    }

    private static void shadesStay() {
        Run run = run("MOVED, a CELL keeps its SHADE").go("shade(0, 0, 0, -32768)", "shade(0, 1, 2, 32767)",
            "region(0, 0, 0, 2, 3)", "turn(6)").due("paste(1, 0, 0)", 6);
        run.due("at(1, 1, 0, 2)", -32768).due("at(1, 0, 2, 2)", 32767);
    }

    private static void noneStaysNone() {
        Run run = run("a block of CELLS, EMPTY ones and none").go("insert(0, 2, 1, 2)", "region(0, 1, 1, 2, 2)", "turn(1)");
        // 5 6 above none and an EMPTY one, turned: none 5 above an EMPTY one and 6.
        run.go("put(1, 0, 0, 3, 0)", "put(1, 1, 0, 3, 0)").due("paste(1, 0, 0)", 3).due("at(1, 0, 0, 0)", 3)
            .due("at(1, 1, 0, 0)", -1);
        run.due("at(1, 0, 1, 2)", 5).due("at(1, 1, 1, 2)", 6);
    }

    private static void asFarAsThereAreCells() {
        Run run = run("come to (i, j) and on, as far as there are CELLS").go("region(0, 0, 0, 2, 3)");
        run.due("paste(1, -1, -2)", 1).due("at(1, 0, 0, 2)", 6).due("paste(1, 3, 3)", 1).due("at(1, 3, 3, 2)", 1);
        run.due("paste(1, -1, 3)", 1).due("at(1, 0, 3, 2)", 4).due("paste(1, 3, -2)", 1).due("at(1, 3, 0, 2)", 3)
            .due("count(1, 0)", 4);
        run.tells(0, "paste(1, -2, 0)", "paste(1, 4, 0)", "paste(1, 0, -3)", "paste(1, 0, 4)").due("about(4)", 22);
        run.go("insert(1, 2, 0, 0)", "insert(1, 3, 1, 30)").due("paste(1, 1, 0)", 3).due("paste(1, 3, 30)", 1)
            .due("at(1, 3, 30, 2)", 1);
    }

    private static void farAway() {
        Run run = run("come to (i, j) and on (any numbers)").go("region(0, 0, 0, 20, 20)");
        for (String far : new String[] {"MIN", "-2147483647", "2147483628", "MAX"}) {
            run.tells(0, "paste(1, " + far + ", 0)", "paste(1, 0, " + far + ")", "paste(1, " + far + ", " + far + ")");
        }
    }

    private static void emptyOnesCome() {
        Run run = run("THE REGION's CELLS that are (EMPTY ones, too)").go("put(1, 1, 1, 3, 0)", "region(1, 2, 2, 4, 4)")
            .due("paste(0, 0, 0)", 4);
        run.due("at(0, 0, 0, 0)", -1).due("at(0, 1, 1, 0)", -1).due("at(0, 0, 2, 2)", 3).due("at(0, 1, 2, 2)", 6)
            .due("count(0, -1)", 4);
    }

    private static void nothingCame() {
        Run run = run("a paste of which nothing came is no change").due("region(1, 4, 0, 2, 2)", 0)
            .tells(0, "paste(0, 0, 0)", "paste(1, 0, 0)");
        run.go("region(0, 0, 0, 2, 3)").tells(0, "paste(1, 9, 9)").due("about(7)", 18).due("about(4)", 18);
        run.due("paste(1, 0, 0)", 6).due("about(7)", 19).due("about(4)", 20);
    }

    private static void readFirst() {
        Run run = run("What is read is read first").go("region(0, 0, 0, 2, 3)").due("paste(0, 0, 1)", 4).due("paste(0, 1, 0)", 3);
        run.due("at(0, 0, 1, 2)", 1).due("at(0, 0, 2, 2)", 2).due("at(0, 1, 0, 2)", 1).due("at(0, 1, 1, 2)", 2)
            .due("at(0, 1, 2, 2)", 3);
    }

    private static void patternsWithoutRows() {
        Run run = run("the block at (i, j) of a pattern without rows").go("pattern()").due("region(2, 0, 0, 3, 4)", 0)
            .due("about(5)", 3);
        run.tells(0, "paste(0, 0, 0)", "paste(2, 0, 0)").go("turn(1)").due("about(5)", 4).due("about(6)", 3);
    }
}
