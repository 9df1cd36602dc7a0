/** The sentences on RULES (==== 4., promises 19 to 22) that name a boundary, each with a test of its own. */
public final class RuleBoundsTest {
    private static final String[] BASE = {"kind(0x3210, 4, true, 1, 'a')", "kind(0, 1, false, 1, 'b')",
        "kind(0x1010, 2, true, 1, 'c')", "pattern()"};

    public static void main(String[] args) {
        eightRules();
        blocksOfOneToFour();
        rulesThatAre();
        kindsOfBlocks();
        cellsOfBlocks();
        kindsInBlocks();
        movesInBlocks();
        emptyInBlocks();
        emptyAtFirst();
        zeroToFiveSteps();
        noStep();
        manySteps();
        emptyOnesGrowEmpty();
        shadesOfWhatTheyStandFor();
        turnedBlocks();
        rowsLengthsOffsets();
        notSquareAndOdd();
        oddAtTheLastCell();
        oddAtTheEndAlone();
        oddAsItLies();
        tooManyRows();
        tooLong();
        offsetsTooGreat();
        noPatternLeft();
        grownIsNoChange();
        aPatternWithoutRows();
        zeroToSixtySteps();
        byNoStep();
        justTheGreatest();
        justAbove();
        tooManyOfAnother();
        Run.end("RuleBoundsTest");
    }

    private static Run run(String sentence) {
        return new Run(sentence).go(BASE);
    }

    private static void eightRules() {
        Run run = run("RULES are numbered from 0 on, 8 at most");
        for (int r = 0; r < 8; r++) {
            run.due("rule(2, 2)", r);
        }
        run.refuses("rule(2, 2)", "rule(1, 1)", "becomes(8, 0, 0, 0, 0, 0)", "grow(0, 8, 0)", "foretold(8, 0, 0, 0)");
        run.due("about(2)", 8).go("becomes(7, 0, 1, 1, 1, 0)").due("foretold(7, 0, 1, 1)", 1).due("foretold(6, 0, 1, 1)", 0);
    }

    private static void blocksOfOneToFour() {
        Run run = run("a block of R times C (1 .. 4 each)");
        run.refuses("rule(0, 1)", "rule(1, 0)", "rule(5, 1)", "rule(1, 5)", "rule(-1, 1)", "rule(1, -1)", "rule(MIN, 1)",
            "rule(1, MAX)", "rule(0, 0)", "rule(5, 5)");
        run.due("rule(1, 1)", 0).due("rule(4, 4)", 1).due("rule(1, 4)", 2).due("rule(4, 1)", 3);
        run.refuses("becomes(0, 0, 1, 0, 0, 0)", "becomes(0, 0, 0, 1, 0, 0)", "becomes(1, 0, 4, 0, 0, 0)",
            "becomes(1, 0, 0, 4, 0, 0)");
        run.refuses("becomes(2, 0, 1, 0, 0, 0)", "becomes(2, 0, 0, 4, 0, 0)", "becomes(3, 0, 4, 0, 0, 0)",
            "becomes(3, 0, 0, 1, 0, 0)");
        run.go("becomes(0, 0, 0, 0, 0, 0)", "becomes(1, 0, 3, 3, 0, 0)", "becomes(2, 0, 0, 3, 0, 0)",
            "becomes(3, 0, 3, 0, 0, 0)");
    }

    private static void rulesThatAre() {
        Run run = run("there is none such (a rule)").go("rule(1, 1)", "rule(1, 2)", "insert(0, 0, 1, 0)");
        for (String r : new String[] {"-1", "2", "8", "MIN", "MAX"}) {
            run.refuses("becomes(" + r + ", 0, 0, 0, 0, 0)", "becomes(" + r + ", 0, 0, 0, -1, 0)", "grow(0, " + r + ", 0)",
                "grow(0, " + r + ", 1)", "foretold(" + r + ", 0, 0, 0)", "foretold(" + r + ", 0, 1, 0)");
        }
        run.go("becomes(1, 0, 0, 1, 0, 0)", "grow(0, 1, 1)").due("foretold(1, 0, 1, 0)", 1);
    }

    private static void kindsOfBlocks() {
        Run run = run("CELL (i, j) of a kind's block (there is none such)")
            .go("rule(1, 1)", "becomes(0, 0, 0, 0, 1, 0)", "becomes(0, 2, 0, 0, 1, 0)");
        run.refuses("becomes(0, -1, 0, 0, 1, 0)", "becomes(0, 3, 0, 0, 1, 0)", "becomes(0, 40, 0, 0, 1, 0)",
            "becomes(0, MIN, 0, 0, 1, 0)", "becomes(0, MAX, 0, 0, 1, 0)", "becomes(0, 3, 0, 0, -1, 0)", "foretold(0, -1, 1, 0)",
            "foretold(0, 3, 1, 0)", "foretold(0, 0, 1, -1)", "foretold(0, 0, 1, 3)", "foretold(0, -1, 0, -1)",
            "foretold(0, MIN, 1, 0)", "foretold(0, MAX, 1, 0)", "foretold(0, 0, 1, MIN)", "foretold(0, 0, 1, MAX)",
            "foretold(0, 40, 1, 0)", "foretold(0, 0, 1, 40)");
        run.due("foretold(0, 2, 1, 1)", 1).due("foretold(0, 1, 1, 2)", 0);
    }

    private static void cellsOfBlocks() {
        Run run = run("CELL (i, j) of a block").go("rule(2, 3)", "becomes(0, 0, 0, 0, 1, 0)", "becomes(0, 0, 1, 2, 2, 0)");
        run.refuses("becomes(0, 0, -1, 0, 1, 0)", "becomes(0, 0, 2, 0, 1, 0)", "becomes(0, 0, 0, -1, 1, 0)",
            "becomes(0, 0, 0, 3, 1, 0)", "becomes(0, 0, MIN, 0, 1, 0)", "becomes(0, 0, MAX, 0, 1, 0)",
            "becomes(0, 0, 0, MIN, 1, 0)", "becomes(0, 0, 0, MAX, 1, 0)", "becomes(0, 0, 2, 2, -1, 0)",
            "becomes(0, 0, 1, 3, -1, 0)");
        run.go("insert(0, 0, 1, 0)", "put(0, 0, 0, 0, 0)", "grow(0, 0, 1)").due("at(1, 0, 0, 0)", 1).due("at(1, 1, 2, 0)", 2)
            .due("count(1, -1)", 4);
    }

    private static void kindsInBlocks() {
        Run run = run("is that one (NONE: EMPTY)").go("rule(1, 2)", "becomes(0, 0, 0, 0, 0, 0)", "becomes(0, 0, 0, 1, 2, 0)");
        run.refuses("becomes(0, 0, 0, 0, -2, 0)", "becomes(0, 0, 0, 0, 3, 0)", "becomes(0, 0, 0, 0, 40, 0)",
            "becomes(0, 0, 0, 0, MIN, 0)", "becomes(0, 0, 0, 0, MAX, 0)");
        run.due("foretold(0, 0, 1, 0)", 1).due("foretold(0, 0, 1, 2)", 1).go("becomes(0, 0, 0, 0, -1, 0)")
            .due("foretold(0, 0, 1, 0)", 0).due("foretold(0, 0, 1, 2)", 1);
    }

    private static void movesInBlocks() {
        Run run = run("that one in a MOVE (0 .. 7)").go("rule(1, 1)", "insert(0, 0, 3, 0)", "put(0, 0, 0, 0, 0)",
            "put(0, 0, 1, 1, 0)", "put(0, 0, 2, 2, 0)");
        run.refuses("becomes(0, 0, 0, 0, 0, -1)", "becomes(0, 0, 0, 0, 0, 8)", "becomes(0, 0, 0, 0, 1, 8)",
            "becomes(0, 0, 0, 0, 0, MIN)", "becomes(0, 0, 0, 0, 0, MAX)");
        run.go("becomes(0, 0, 0, 0, 0, 7)", "becomes(0, 1, 0, 0, 1, 7)", "becomes(0, 2, 0, 0, 2, 7)", "grow(0, 0, 1)");
        run.due("at(1, 0, 0, 1)", 7).due("at(1, 0, 1, 1)", 0).due("at(1, 0, 2, 1)", 5);
    }

    private static void emptyInBlocks() {
        Run run = run("(NONE: EMPTY)").go("rule(1, 1)", "becomes(0, 0, 0, 0, 1, 0)").due("foretold(0, 0, 1, 1)", 1)
            .go("becomes(0, 0, 0, 0, -1, 7)").due("foretold(0, 0, 1, 1)", 0);
        run.go("insert(0, 0, 1, 0)", "put(0, 0, 0, 0, 3)", "shade(0, 0, 0, 5)", "grow(0, 0, 1)").due("at(1, 0, 0, 0)", -1)
            .due("at(1, 0, 0, 1)", 0).due("at(1, 0, 0, 2)", 0);
    }

    private static void emptyAtFirst() {
        Run run = run("CELLS for each kind (EMPTY at first)")
            .go("rule(4, 4)", "kind(0, 1, false, 0, 'later')", "insert(0, 0, 1, 0)", "put(0, 0, 0, 3, 0)");
        run.due("foretold(0, 3, 1, 3)", 0).due("foretold(0, 3, 1, 0)", 0).go("grow(0, 0, 1)").due("count(1, -1)", 16);
        run.go("becomes(0, 3, 3, 3, 3, 0)", "grow(0, 0, 1)").due("at(2, 3, 3, 0)", 3).due("count(2, -1)", 15);
    }

    private static void zeroToFiveSteps() {
        Run run = run("p GROWN by so many steps (0 .. 5)").go("rule(1, 1)", "insert(0, 0, 1, 0)", "put(0, 0, 0, 0, 0)",
            "becomes(0, 0, 0, 0, 0, 1)");
        run.refuses("grow(0, 0, -1)", "grow(0, 0, 6)", "grow(0, 0, MIN)", "grow(0, 0, MAX)");
        for (int d = 0; d <= 5; d++) {
            run.due("grow(0, 0, " + d + ")", 1 + d);
        }
        // The block is MOVED as the CELL's MOVE is: 0, 1, 2, 3, 4 quarters, and one more.
        run.due("at(1, 0, 0, 1)", 0).due("at(2, 0, 0, 1)", 1).due("at(4, 0, 0, 1)", 3).due("at(5, 0, 0, 1)", 0)
            .due("at(6, 0, 0, 1)", 1);
    }

    private static void noStep() {
        Run run = run("GROWN by 0 steps").go("rule(2, 3)", "insert(0, 0, 60, 30)", "insert(0, 1, 0, -30)", "put(0, 0, 89, 0, 3)",
            "shade(0, 0, 89, -7)");
        run.due("grow(0, 0, 0)", 1).due("at(1, 0, 89, 0)", 0).due("at(1, 0, 89, 1)", 3).due("at(1, 0, 89, 2)", -7)
            .due("row(1, 1, 1)", -30);
        run.due("shares(0, 0, 1, 0)", 0).due("shares(0, 1, 1, 1)", 0).due("about(4)", 6);
    }

    private static void manySteps() {
        Run run = run("A pattern is GROWN by one step, again and again")
            .go("rule(2, 2)", "becomes(0, 0, 0, 0, 0, 1)", "becomes(0, 0, 0, 1, 0, 6)", "becomes(0, 0, 1, 0, 1, 0)");
        run.go("becomes(0, 1, 1, 1, 2, 5)", "becomes(0, 1, 0, 0, 0, 3)", "becomes(0, 2, 1, 0, 1, 0)",
            "becomes(0, 2, 0, 1, 2, 0)", "insert(0, 0, 1, 0)", "put(0, 0, 0, 0, 3)");
        for (int d = 1; d <= 5; d++) {
            run.due("grow(" + (d == 1 ? 0 : 2 * d - 3) + ", 0, 1)", 2 * d - 1).due("grow(0, 0, " + d + ")", 2 * d);
            run.due("congruent(" + (2 * d - 1) + ", " + 2 * d + ")", 0)
                .due("count(" + 2 * d + ", 0)", new int[] {2, 5, 12, 30, 75}[d - 1]);
        }
        run.due("row(10, 31, 0)", 32).refuses("row(10, 32, 0)");
    }

    private static void emptyOnesGrowEmpty() {
        Run run = run("an EMPTY one a block of EMPTY ones").go("rule(4, 4)", "insert(0, 0, 1, 0)", "becomes(0, 0, 0, 0, 0, 0)",
            "grow(0, 0, 1)");
        run.due("count(1, -1)", 16).due("count(1, 0)", 0).go("grow(0, 0, 2)").due("count(2, -1)", 256);
    }

    private static void shadesOfWhatTheyStandFor() {
        Run run = run("with the SHADE of the CELL that it stands for")
            .go("rule(1, 2)", "becomes(0, 0, 0, 0, 0, 0)", "becomes(0, 0, 0, 1, 1, 0)", "becomes(0, 1, 0, 0, 2, 0)");
        run.go("insert(0, 0, 2, 0)", "put(0, 0, 0, 0, 0)", "shade(0, 0, 0, -32768)", "put(0, 0, 1, 0, 0)",
            "shade(0, 0, 1, 32767)", "grow(0, 0, 2)");
        run.due("at(1, 0, 0, 2)", -32768).due("at(1, 0, 1, 2)", -32768).due("at(1, 0, 2, 0)", 2).due("at(1, 0, 2, 2)", -32768)
            .due("at(1, 0, 3, 2)", 0);
        run.due("at(1, 0, 4, 2)", 32767).due("at(1, 0, 6, 2)", 32767);
    }

    private static void turnedBlocks() {
        int[][] corner = {{0, 1}, {1, 2}, {2, 1}, {1, 0}, {0, 1}, {1, 2}, {2, 1}, {1, 0}};
        int[][] side = {{1, 0}, {0, 1}, {1, 2}, {2, 1}, {1, 2}, {2, 1}, {1, 0}, {0, 1}};
        for (int m = 0; m < 8; m++) {
            Run run = run("each CELL becomes its kind's block MOVED as the CELL's MOVE is")
                .go("rule(3, 3)", "becomes(0, 0, 0, 1, 0, 2)", "becomes(0, 0, 1, 0, 1, 0)");
            run.go("insert(0, 0, 1, 0)", "put(0, 0, 0, 0, " + m + ")", "grow(0, 0, 1)").due("count(1, -1)", 7);
            run.due("at(1, " + corner[m][0] + ", " + corner[m][1] + ", 0)", 0)
                .due("at(1, " + corner[m][0] + ", " + corner[m][1] + ", 1)", m < 4 ? (m + 2) % 4 : 4 + (m + 2) % 4);
            run.due("at(1, " + side[m][0] + ", " + side[m][1] + ", 0)", 1);
        }
    }

    private static void rowsLengthsOffsets() {
        Run run = run("ROW i becomes R ROWS, of LENGTH and OFFSET C times as great")
            .go("rule(3, 4)", "insert(0, 0, 2, -3)", "insert(0, 1, 0, 5)", "grow(0, 0, 1)");
        for (int i = 0; i < 6; i++) {
            run.due("row(1, " + i + ", 0)", i < 3 ? 8 : 0).due("row(1, " + i + ", 1)", i < 3 ? -12 : 20)
                .due("row(1, " + i + ", 2)", 1);
        }
        run.refuses("row(1, 6, 0)").due("about(4)", 8);
    }

    private static void notSquareAndOdd() {
        for (int m = 0; m < 8; m++) {
            for (String rule : new String[] {"rule(1, 2)", "rule(4, 3)", "rule(1, 1)", "rule(4, 4)"}) {
                Run run = run("If R is not C, a CELL that LIES turned by an odd number makes it refused")
                    .go(rule, "insert(0, 0, 2, 0)", "put(0, 0, 1, 0, " + m + ")");
                boolean square = rule.equals("rule(1, 1)") || rule.equals("rule(4, 4)");
                if (square || m % 2 == 0) {
                    run.go("grow(0, 0, 1)");
                } else {
                    run.refuses("grow(0, 0, 1)").go("grow(0, 0, 0)");
                }
            }
        }
    }

    private static void oddAtTheLastCell() {
        Run run = run("a CELL that LIES turned by an odd number (the first, or the last of all)").go("rule(2, 3)");
        for (int i = 0; i < 29; i++) {
            run.go("insert(0, 0, 1, 0)");
        }
        run.go("insert(0, 29, 10, -10)", "insert(0, 0, 10, 10)").due("row(0, 30, 0)", 10).refuses("grow(0, 0, 1)")
            .go("remove(0, 1)").due("grow(0, 0, 1)", 1);
        run.go("put(0, 29, -1, 0, 1)").refuses("grow(0, 0, 1)").go("put(0, 29, -1, 0, 2)", "put(0, 0, 10, 0, 7)")
            .refuses("grow(0, 0, 1)");
        run.go("put(0, 0, 10, -1, 0)").due("grow(0, 0, 1)", 2).due("at(2, 59, -1, 0)", -1).due("row(2, 59, 0)", 30);
    }

    private static void oddAtTheEndAlone() {
        Run run = run("a CELL that LIES turned by an odd number (one that is GROWN)")
            .go("rule(1, 2)", "becomes(0, 0, 0, 1, 0, 1)", "insert(0, 0, 1, 0)", "put(0, 0, 0, 0, 0)");
        run.refuses("grow(0, 0, 2)", "grow(0, 0, 5)").due("grow(0, 0, 1)", 1).due("at(1, 0, 1, 1)", 1).refuses("grow(1, 0, 1)");
        run.go("becomes(0, 0, 0, 1, 0, 2)", "grow(0, 0, 5)").due("row(2, 0, 0)", 32);
    }

    private static void oddAsItLies() {
        Run run = run("turned by an odd number, as it LIES").go("rule(2, 1)", "kind(0x1010, 2, false, 0, 'd')",
            "insert(0, 0, 3, 0)", "put(0, 0, 0, 1, 1)", "put(0, 0, 1, 2, 6)", "put(0, 0, 2, 3, 2)");
        run.due("grow(0, 0, 1)", 1).go("put(0, 0, 1, 2, 7)").refuses("grow(0, 0, 1)")
            .go("put(0, 0, 1, 1, 7)", "put(0, 0, 2, 3, 3)").refuses("grow(0, 0, 1)");
        run.go("put(0, 0, 2, -1, 0)").due("grow(0, 0, 1)", 2);
    }

    private static void tooManyRows() {
        Run run = run("where how many ROWS there are would be more than told in 3").go("rule(2, 1)", "rule(3, 1)", "rule(4, 1)");
        for (int i = 0; i < 15; i++) {
            run.go("insert(0, 0, 1, 0)");
        }
        run.due("grow(0, 2, 1)", 1).due("row(1, 59, 0)", 1).due("grow(0, 0, 2)", 2)
            .refuses("grow(0, 0, 3)", "grow(0, 2, 2)", "grow(1, 0, 1)").due("grow(0, 1, 1)", 3);
        run.go("insert(0, 0, 1, 0)").refuses("grow(0, 2, 1)", "grow(0, 0, 2)").due("grow(0, 1, 1)", 4).due("row(4, 47, 0)", 1)
            .refuses("row(4, 48, 0)");
        run.refuses("grow(0, 2, 5)");
    }

    private static void tooLong() {
        Run run = run("where a LENGTH would be more than told in 3")
            .go("rule(1, 2)", "rule(1, 3)", "rule(1, 4)", "insert(0, 0, 20, 0)", "insert(0, 1, 1, 0)");
        run.due("grow(0, 1, 1)", 1).due("row(1, 0, 0)", 60).refuses("grow(0, 2, 1)", "grow(0, 1, 2)", "grow(0, 0, 2)",
            "grow(0, 2, 5)").go("insert(0, 2, 21, 0)");
        run.refuses("grow(0, 1, 1)").due("grow(0, 0, 1)", 2).due("row(2, 2, 0)", 42)
            .go("remove(0, 0)", "remove(0, 1)", "grow(0, 0, 5)").due("row(3, 0, 0)", 32).refuses("grow(0, 1, 4)");
    }

    private static void offsetsTooGreat() {
        Run run = run("where an OFFSET would be more than told in 3")
            .go("rule(1, 2)", "rule(1, 3)", "insert(0, 0, 1, 15)", "insert(0, 1, 1, -15)").due("grow(0, 0, 1)", 1);
        run.due("row(1, 0, 1)", 30).due("row(1, 1, 1)", -30).refuses("grow(0, 1, 1)", "grow(0, 0, 2)");
        for (String offset : new String[] {"16", "-16", "30", "-30"}) {
            run.go("insert(0, 1, 0, " + offset + ")").refuses("grow(0, 0, 1)", "grow(0, 1, 1)").go("remove(0, 1)");
        }
        run.due("grow(0, 0, 1)", 2);
    }

    private static void noPatternLeft() {
        Run run = run("A new pattern (16 at most)").go("rule(1, 1)").times(14, "pattern()").due("grow(0, 0, 5)", 15)
            .refuses("grow(0, 0, 0)", "grow(0, 0, 5)");
    }

    private static void grownIsNoChange() {
        Run run = run("grow() is not taken back").go("rule(2, 2)", "insert(0, 0, 1, 0)", "grow(0, 0, 1)").due("about(7)", 1)
            .due("undo()", 0).due("row(1, 1, 0)", 2).due("about(1)", 2);
    }

    private static void aPatternWithoutRows() {
        run("A pattern without rows is GROWN").go("rule(4, 3)").due("grow(0, 0, 5)", 1).refuses("row(1, 0, 0)")
            .due("about(4)", 0);
    }

    private static void zeroToSixtySteps() {
        Run run = run("FORETOLD by 0 to 60 steps").go("rule(1, 1)", "becomes(0, 0, 0, 0, 1, 0)", "becomes(0, 1, 0, 0, 0, 0)");
        run.refuses("foretold(0, 0, -1, 0)", "foretold(0, 0, 61, 0)", "foretold(0, 0, MIN, 0)", "foretold(0, 0, MAX, 0)");
        run.due("foretold(0, 0, 0, 0)", 1).due("foretold(0, 0, 1, 0)", 0).due("foretold(0, 0, 59, 0)", 0)
            .due("foretold(0, 0, 59, 1)", 1);
        run.due("foretold(0, 0, 60, 0)", 1).due("foretold(0, 0, 60, 1)", 0);
    }

    private static void byNoStep() {
        Run run = run("by 0 steps one CELL of kind a is itself").go("rule(2, 2)");
        run.due("foretold(0, 0, 0, 0)", 1).due("foretold(0, 0, 0, 1)", 0).due("foretold(0, 2, 0, 2)", 1)
            .due("foretold(0, 2, 1, 2)", 0);
    }

    /** 8 of kind 0 and 7 of kind 1 come of kind 0, one of kind 1 of itself: 8^n - 1 of kind 1 by n steps. */
    private static Run eights(String sentence) {
        Run run = run(sentence).go("rule(4, 4)", "becomes(0, 1, 0, 0, 1, 0)");
        for (int n = 0; n < 15; n++) {
            run.go("becomes(0, 0, " + n / 4 + ", " + n % 4 + ", " + (n < 8 ? 0 : 1) + ", " + n % 8 + ")");
        }
        return run;
    }

    private static void justTheGreatest() {
        eights("-2 if that is above 9223372036854775807 (it is just that)").due("foretold(0, 0, 21, 1)", Long.MAX_VALUE)
            .due("foretold(0, 0, 20, 0)", 1L << 60);
    }

    private static void justAbove() {
        // 8^21 is one more than the greatest; so is 2 * 4^31, but 4^32 goes round to 0.
        Run run = eights("-2 if that is above 9223372036854775807 (one more)").due("foretold(0, 0, 21, 0)", -2).go("rule(2, 2)");
        for (int n = 0; n < 4; n++) {
            run.go("becomes(1, 0, " + n / 2 + ", " + n % 2 + ", 0, 0)");
        }
        run.go("becomes(1, 1, 0, 0, 0, 0)", "becomes(1, 1, 0, 1, 0, 0)");
        run.due("foretold(1, 0, 31, 0)", 1L << 62).due("foretold(1, 1, 31, 0)", 1L << 61).due("foretold(1, 1, 32, 0)", -2);
        run.due("foretold(1, 0, 32, 0)", -2).due("foretold(1, 0, 33, 0)", -2).due("foretold(1, 0, 60, 0)", -2);
    }

    private static void tooManyOfAnother() {
        Run run = eights("how many CELLS of kind b (others do not count)").due("foretold(0, 0, 60, 0)", -2)
            .due("foretold(0, 0, 60, 1)", -2).due("foretold(0, 0, 60, 2)", 0);
        run.due("foretold(0, 1, 60, 1)", 1).due("foretold(0, 0, 22, 1)", -2).go("becomes(0, 1, 0, 0, -1, 0)")
            .due("foretold(0, 0, 21, 1)", 7L << 60);
        run.due("foretold(0, 0, 22, 1)", -2);
    }
}
