/** The sentences on FLOORS (==== 6., promises 29 to 36) that name a boundary, each with a test of its own. */
public final class FloorBoundsTest {
    private static final String[] BASE = {"kind(0, 1, false, 5, 'a')", "kind(0x1111, 1, false, 3, 'b')",
        "kind(0x1010, 2, false, 2, 'c')", "kind(0x1100, 4, true, 1, 'd')"};

    public static void main(String[] args) {
        sixFloors();
        oneToEight();
        floorsThatAre();
        placesThatAre();
        kindsOfPlaces();
        movesOfGivenOnes();
        movesOfOthers();
        nothingLiesThereThen();
        othersStay();
        stocksOfKinds();
        stockZeroToNinetyNine();
        stockNoneAtFirst();
        usedAsOftenAsItsStock();
        givenOnesAreNotCounted();
        holesFitAll();
        givenOnesFit();
        givenOnesByTheirEdges();
        coloursOfPlaces();
        notRoundTheRim();
        allThatMayFit();
        movesAsTheyLie();
        noOpenPlace();
        smallestAndGreatest();
        fewestFirst();
        firstByRowsThenColumns();
        triedByKindThenMove();
        noneFits();
        noneIsLeft();
        filledNotFilledNotKnown();
        mostOfFills();
        fillsThatAreShown();
        thirtyThousandSteps();
        foundByTheLastStep();
        stepsOfALife();
        asMuchAsTheBest();
        leastCostOfStockAtFirst();
        costsOfWhatIsPut();
        bestSoFar();
        forcedWithJustOne();
        forcedAsTheRoundBegins();
        forcedUntilNone();
        shownOrNot();
        refusedSearches();
        Run.end("FloorBoundsTest");
    }

    private static Run run(String sentence) {
        return new Run(sentence).go(BASE);
    }

    private static void sixFloors() {
        Run run = run("FLOORS are numbered from 0 on, 6 at most");
        for (int f = 0; f < 6; f++) {
            run.due("floor(1, 1)", f);
        }
        run.refuses("floor(1, 1)", "floor(8, 8)", "place(6, 0, 0, -1, 0)", "stock(6, 0, 1)", "fill(6)", "fills(6, 1)",
            "cheapest(6)", "forced(6)", "shown(6, 0, 0)");
        run.due("about(3)", 6).go("stock(5, 0, 1)").due("fill(5)", 1).due("fill(4)", 0);
    }

    private static void oneToEight() {
        Run run = run("1 to 8 rows and columns of PLACES").refuses("floor(0, 1)", "floor(1, 0)", "floor(9, 1)", "floor(1, 9)",
            "floor(-1, 1)", "floor(1, -1)", "floor(MIN, 1)", "floor(1, MAX)");
        run.due("floor(1, 1)", 0).due("floor(8, 8)", 1).due("floor(1, 8)", 2).due("floor(8, 1)", 3);
        run.due("shown(1, 7, 7)", -1).due("shown(2, 0, 7)", -1).due("shown(3, 7, 0)", -1).due("shown(2, 1, 0)", -2)
            .due("shown(3, 0, 1)", -2);
    }

    private static void floorsThatAre() {
        Run run = run("there is none such (a floor)").go("floor(1, 1)", "floor(1, 2)", "stock(0, 0, 1)", "fill(0)");
        for (String f : new String[] {"-1", "2", "6", "MIN", "MAX"}) {
            run.refuses("place(" + f + ", 0, 0, -1, 0)", "place(" + f + ", 0, 0, -2, 0)", "place(" + f + ", 0, 0, 0, 0)",
                "stock(" + f + ", 0, 1)", "fill(" + f + ")", "fills(" + f + ", 1)", "cheapest(" + f + ")", "forced(" + f + ")",
                "shown(" + f + ", 0, 0)");
        }
        run.go("place(1, 0, 1, 0, 0)", "stock(1, 0, 1)").due("fill(1)", 1);
    }

    private static void placesThatAre() {
        Run run = run("A PLACE (there is none such)").go("floor(2, 3)", "stock(0, 0, 99)", "fill(0)", "place(0, 0, 0, 0, 0)",
            "place(0, 1, 2, -2, 0)");
        for (String place : new String[] {"-1, 0", "2, 0", "0, -1", "0, 3", "8, 0", "0, 8", "MIN, 0", "MAX, 0", "0, MIN",
            "0, MAX", "1, 3", "2, 2"}) {
            run.refuses("place(0, " + place + ", 0, 0)", "place(0, " + place + ", -1, 0)", "place(0, " + place + ", -2, 0)",
                "shown(0, " + place + ")");
        }
    }

    private static void kindsOfPlaces() {
        Run run = run("a HOLE (kind -2), open (NONE), or GIVEN").go("floor(1, 2)", "place(0, 0, 0, 0, 0)")
            .due("shown(0, 0, 0)", 0).go("place(0, 0, 0, 3, 0)").due("shown(0, 0, 0)", 24);
        run.refuses("place(0, 0, 0, -3, 0)", "place(0, 0, 0, 4, 0)", "place(0, 0, 0, 40, 0)", "place(0, 0, 0, MIN, 0)",
            "place(0, 0, 0, MAX, 0)");
        run.go("place(0, 0, 0, -2, 0)").due("shown(0, 0, 0)", -2).go("place(0, 0, 0, -1, 0)").due("shown(0, 0, 0)", -1)
            .due("shown(0, 0, 1)", -1);
    }

    private static void movesOfGivenOnes() {
        Run run = run("GIVEN (a kind in a MOVE as it LIES)").go("floor(1, 1)", "place(0, 0, 0, 3, 7)").due("shown(0, 0, 0)", 31);
        run.refuses("place(0, 0, 0, 3, -1)", "place(0, 0, 0, 3, 8)", "place(0, 0, 0, 0, 8)", "place(0, 0, 0, 3, MIN)",
            "place(0, 0, 0, 3, MAX)");
        run.go("place(0, 0, 0, 2, 7)").due("shown(0, 0, 0)", 17).go("place(0, 0, 0, 2, 6)").due("shown(0, 0, 0)", 16)
            .go("place(0, 0, 0, 0, 5)").due("shown(0, 0, 0)", 0);
        run.go("place(0, 0, 0, 3, 4)").due("shown(0, 0, 0)", 28);
    }

    private static void movesOfOthers() {
        Run run = run("the MOVE counts for these alone").go("floor(1, 1)");
        for (String move : new String[] {"-1", "8", "MIN", "MAX"}) {
            run.go("place(0, 0, 0, -2, " + move + ")").due("shown(0, 0, 0)", -2).go("place(0, 0, 0, -1, " + move + ")")
                .due("shown(0, 0, 0)", -1);
        }
    }

    private static void nothingLiesThereThen() {
        Run run = run("open (NONE; nothing lies there then)").go("floor(1, 2)", "stock(0, 1, 9)").due("fill(0)", 1)
            .due("shown(0, 0, 0)", 8);
        run.go("place(0, 0, 0, -1, 0)").due("shown(0, 0, 0)", -1).due("shown(0, 0, 1)", 8)
            .go("place(0, 0, 1, 0, 0)", "place(0, 0, 1, -1, 0)").due("shown(0, 0, 1)", -1);
        run.due("fill(0)", 1).go("place(0, 0, 0, -2, 0)", "place(0, 0, 0, -1, 0)").due("shown(0, 0, 0)", -1);
    }

    private static void othersStay() {
        Run run = run("what lies in others stays").go("floor(2, 2)", "floor(1, 1)", "stock(0, 1, 9)", "stock(1, 1, 9)")
            .due("fill(0)", 1).due("fill(1)", 1).go("place(0, 0, 0, 0, 0)", "place(0, 0, 1, -2, 0)", "stock(0, 1, 0)");
        run.due("shown(0, 0, 0)", 0).due("shown(0, 0, 1)", -2).due("shown(0, 1, 0)", 8).due("shown(0, 1, 1)", 8)
            .due("shown(1, 0, 0)", 8).due("fill(0)", 0);
        run.due("shown(0, 1, 0)", -1).due("shown(0, 0, 0)", 0).due("shown(0, 0, 1)", -2).due("shown(1, 0, 0)", 8);
    }

    private static void stocksOfKinds() {
        Run run = run("The STOCK of a kind (there is none such)").go("floor(1, 1)", "stock(0, 3, 1)", "stock(0, 0, 1)");
        run.refuses("stock(0, -1, 1)", "stock(0, -2, 1)", "stock(0, 4, 1)", "stock(0, 40, 1)", "stock(0, MIN, 1)",
            "stock(0, MAX, 1)").due("fills(0, 1000)", 9);
    }

    private static void stockZeroToNinetyNine() {
        Run run = run("The STOCK of a kind (0 .. 99)").go("floor(8, 8)", "stock(0, 0, 64)", "floor(1, 1)", "stock(1, 1, 1)");
        run.refuses("stock(0, 0, -1)", "stock(0, 0, 100)", "stock(0, 0, MIN)", "stock(0, 0, MAX)", "stock(1, 1, -1)",
            "stock(1, 1, 100)").due("fill(0)", 1);
        run.go("stock(0, 0, 99)").due("fill(0)", 1).go("stock(1, 1, 0)").due("fill(1)", 0).go("stock(1, 1, 99)")
            .due("fill(1)", 1);
    }

    private static void stockNoneAtFirst() {
        Run run = run("of each kind a STOCK (0 at first)").go("floor(1, 1)").due("fill(0)", 0).due("fills(0, 1)", 0)
            .due("cheapest(0)", -2).due("forced(0)", 0).go("kind(0, 1, false, 0, 'later')");
        run.due("fill(0)", 0).go("stock(0, 4, 1)").due("fill(0)", 1).due("shown(0, 0, 0)", 32).go("floor(1, 1)").due("fill(1)", 0)
            .due("about(8)", 1);
    }

    private static void usedAsOftenAsItsStock() {
        Run run = run("no kind is used more often than its STOCK").go("floor(1, 3)", "stock(0, 0, 2)").due("fill(0)", 0)
            .due("about(8)", 2).due("fills(0, 9)", 0).due("cheapest(0)", -2);
        run.due("forced(0)", 2).go("stock(0, 0, 3)").due("fill(0)", 1).due("fills(0, 9)", 1).due("cheapest(0)", 15)
            .due("forced(0)", 3);
        run.go("kind(0, 1, false, 0, 'more')", "stock(0, 0, 2)", "stock(0, 4, 1)").due("fills(0, 9)", 3).go("stock(0, 4, 2)")
            .due("fills(0, 9)", 6);
    }

    private static void givenOnesAreNotCounted() {
        Run run = run("GIVEN ones are not counted").go("floor(1, 3)", "stock(0, 0, 1)", "place(0, 0, 0, 0, 0)",
            "place(0, 0, 2, 0, 0)").due("fill(0)", 1).due("fills(0, 9)", 1);
        run.due("cheapest(0)", 5).due("forced(0)", 1).go("stock(0, 0, 0)").due("fill(0)", 0).due("forced(0)", 0);
    }

    private static void holesFitAll() {
        Run run = run("HOLES fit all").go("floor(3, 3)", "place(0, 1, 1, -2, 0)", "place(0, 0, 0, -2, 0)",
            "place(0, 0, 2, -2, 0)", "place(0, 2, 0, -2, 0)", "place(0, 2, 2, -2, 0)");
        run.go("place(0, 0, 1, 0, 0)", "place(0, 1, 0, 1, 0)", "place(0, 2, 1, 1, 0)", "stock(0, 0, 1)", "stock(0, 1, 1)")
            .due("fills(0, 9)", 2).due("shown(0, 1, 2)", 8).due("forced(0)", 0);
    }

    private static void givenOnesFit() {
        String[] apart = {"place(0, 0, 1, 1, 0)", "place(0, 1, 0, 1, 0)"};
        for (String place : apart) {
            Run run = run("If GIVEN ones don't FIT, there is no FILL, without a STEP")
                .go("floor(2, 2)", "stock(0, 0, 9)", "stock(0, 1, 9)", "stock(0, 2, 9)", "stock(0, 3, 9)",
                "place(0, 0, 0, 0, 0)");
            run.due("fill(0)", 1).due("about(8)", 3).go(place).due("fill(0)", 0).due("shown(0, 1, 1)", -1).due("fills(0, 9)", 0)
                .due("cheapest(0)", -2).due("about(8)", 3);
            run.due("shown(0, 0, 0)", 0).go("place(0, 0, 0, -2, 0)").due("fill(0)", 1);
        }
        Run run = run("GIVEN ones FIT each other, too (no PLACE is open)")
            .go("floor(1, 2)", "place(0, 0, 0, 0, 0)", "place(0, 0, 1, 0, 0)").due("fill(0)", 1).due("fills(0, 2)", 1)
            .due("cheapest(0)", 0);
        run.go("place(0, 0, 1, 2, 0)").due("fill(0)", 0).due("fills(0, 2)", 0).due("cheapest(0)", -2).go("place(0, 0, 1, 2, 1)")
            .due("fill(0)", 1).due("about(8)", 0);
    }

    private static void givenOnesByTheirEdges() {
        Run run = new Run("FIT what lies beside it (on each side)")
            .go("kind(0x4321, 4, true, 0, 'a')", "kind(0x1111, 1, false, 0, 'b')", "kind(0x2222, 1, false, 0, 'c')",
            "kind(0x3333, 1, false, 0, 'd')", "kind(0x4444, 1, false, 0, 'e')", "floor(3, 3)", "place(0, 0, 0, -2, 0)",
            "place(0, 0, 2, -2, 0)", "place(0, 2, 0, -2, 0)", "place(0, 2, 2, -2, 0)");
        for (int k = 1; k <= 4; k++) {
            run.go("stock(0, " + k + ", 1)");
        }
        int[][] lying = {{1, 2, 3, 4}, {4, 1, 2, 3}, {3, 4, 1, 2}, {2, 3, 4, 1}, {1, 4, 3, 2}, {2, 1, 4, 3}, {3, 2, 1, 4}, {4, 3,
            2, 1}};
        for (int m = 0; m < 8; m++) {
            run.go("place(0, 1, 1, 0, " + m + ")").due("forced(0)", 4).due("shown(0, 0, 1)", 8 * lying[m][0])
                .due("shown(0, 1, 2)", 8 * lying[m][1]);
            run.due("shown(0, 2, 1)", 8 * lying[m][2]).due("shown(0, 1, 0)", 8 * lying[m][3]).due("fills(0, 2)", 1)
                .due("shown(0, 1, 0)", 8 * lying[m][3]);
        }
        Run twice = new Run("GIVEN ones FIT each other (the same one twice)")
            .go("kind(0x4321, 4, true, 0, 'a')", "floor(1, 2)", "place(0, 0, 0, 0, 0)", "place(0, 0, 1, 0, 0)");
        twice.due("fill(0)", 0).go("place(0, 0, 1, 0, 2)").due("fill(0)", 1).go("place(0, 0, 1, 0, 4)").due("fill(0)", 1)
            .go("place(0, 0, 1, 0, 6)").due("fill(0)", 0);
        Run above = new Run("GIVEN ones FIT each other (one above the other)")
            .go("kind(0x4321, 4, true, 0, 'a')", "floor(2, 1)", "place(0, 0, 0, 0, 0)", "place(0, 1, 0, 0, 0)");
        above.due("fill(0)", 0).go("place(0, 1, 0, 0, 2)").due("fill(0)", 1).go("place(0, 1, 0, 0, 6)").due("fill(0)", 1)
            .go("place(0, 1, 0, 0, 4)").due("fill(0)", 0);
    }

    private static void coloursOfPlaces() {
        Run run = new Run("a colour (0 .. 15) FITS its like alone")
            .go("kind(0xFFFF, 1, false, 0, 'a')", "kind(0xEEEE, 1, false, 0, 'b')", "kind(0, 1, false, 0, 'c')", "floor(1, 2)",
            "stock(0, 1, 1)", "stock(0, 2, 1)");
        run.go("place(0, 0, 0, 0, 0)").due("fill(0)", 0).due("forced(0)", 0).go("stock(0, 0, 1)").due("fills(0, 9)", 1)
            .due("shown(0, 0, 1)", 0).due("forced(0)", 1);
        run.go("place(0, 0, 1, 1, 0)").due("fill(0)", 0).go("place(0, 0, 1, 0, 0)").due("fill(0)", 1).go("place(0, 0, 0, 2, 0)")
            .due("fill(0)", 0);
    }

    private static void notRoundTheRim() {
        String[][] apart = {{"0, 7", "1, 0"}, {"0, 0", "0, 7"}, {"0, 0", "7, 0"}, {"0, 7", "7, 7"}, {"7, 0", "7, 7"}, {"0, 0",
            "7, 7"}, {"6, 7", "7, 0"}};
        for (String[] pair : apart) {
            Run run = run("side by side or above one another (not round the rim)")
                .go("floor(8, 8)", "stock(0, 0, 1)", "stock(0, 1, 1)");
            for (int n = 0; n < 64; n++) {
                run.go("place(0, " + n / 8 + ", " + n % 8 + ", -2, 0)");
            }
            run.go("place(0, " + pair[0] + ", 0, 0)", "place(0, " + pair[1] + ", 1, 0)").due("fill(0)", 1);
            run.go("place(0, " + pair[0] + ", -1, 0)").due("fills(0, 9)", 2).go("place(0, " + pair[1] + ", -1, 0)")
                .due("fills(0, 9)", 2).due("forced(0)", 0);
        }
    }

    private static void allThatMayFit() {
        Run run = new Run("the (kind, MOVE as it LIES) of which one is left (40 kinds, 8 MOVES)");
        for (int k = 0; k < 40; k++) {
            run.go("kind(" + (k % 15 + 1) + ", 4, true, " + k + ", 'k" + (char) ('a' + k / 8) + (char) ('a' + k % 8) + "')");
        }
        run.go("floor(1, 1)");
        for (int k = 39; k >= 0; k--) {
            run.go("stock(0, " + k + ", 1)").due("fills(0, 1000)", 8 * (40 - k)).due("shown(0, 0, 0)", 319).due("fill(0)", 1)
                .due("shown(0, 0, 0)", 8 * k);
        }
        run.due("cheapest(0)", 0).go("floor(1, 3)", "place(1, 0, 0, 39, 1)", "place(1, 0, 2, -2, 0)");
        for (int k = 0; k < 40; k++) {
            run.go("stock(1, " + k + ", 1)");
        }
        // Beside colour 10 at its right lie the kinds 9, 24 and 39, each with its own 10 at the left, as it is or mirrored.
        run.due("fills(1, 1000)", 6).due("shown(1, 0, 1)", 8 * 39 + 7).due("fills(1, 3)", 3).due("shown(1, 0, 1)", 8 * 24 + 3)
            .due("cheapest(1)", 9);
    }

    private static void movesAsTheyLie() {
        Run run = new Run("the (kind, MOVE as it LIES)").go("kind(0, 1, false, 0, 'a')", "kind(0, 1, true, 0, 'b')",
            "kind(0, 2, false, 0, 'c')", "kind(0, 2, true, 0, 'd')", "kind(0, 4, false, 0, 'e')", "kind(0, 4, true, 0, 'f')",
            "floor(1, 1)");
        int[] many = {1, 2, 2, 4, 4, 8};
        int[] last = {0, 4, 1, 5, 3, 7};
        for (int k = 0; k < 6; k++) {
            run.go("stock(0, " + k + ", 1)").due("fills(0, 1000)", many[k]).due("shown(0, 0, 0)", 8 * k + last[k])
                .go("stock(0, " + k + ", 0)");
        }
        run.due("about(8)", 21);
    }

    private static void noOpenPlace() {
        Run run = run("a kind in each open PLACE (there is none)").go("floor(1, 1)", "place(0, 0, 0, -2, 0)").due("fill(0)", 1)
            .due("fills(0, 1)", 1).due("fills(0, 1000)", 1).due("cheapest(0)", 0).due("forced(0)", 0);
        run.go("place(0, 0, 0, 3, 5)").due("fill(0)", 1).due("fills(0, 1000)", 1).due("cheapest(0)", 0).due("forced(0)", 0)
            .due("shown(0, 0, 0)", 29).due("about(8)", 0);
    }

    private static void smallestAndGreatest() {
        Run run = run("1 to 8 rows and columns (filled)").go("floor(1, 1)", "floor(8, 8)", "stock(0, 3, 1)", "stock(1, 1, 64)")
            .due("fill(0)", 1).due("shown(0, 0, 0)", 24).due("about(8)", 1);
        run.due("fill(1)", 1).due("about(8)", 65).due("shown(1, 0, 0)", 8).due("shown(1, 7, 7)", 8).due("shown(1, 0, 7)", 8)
            .due("shown(1, 7, 0)", 8).due("cheapest(1)", 192).due("forced(1)", 64);
        run.go("place(1, 7, 7, 0, 0)").due("fill(1)", 0).due("forced(1)", 61);
    }

    private static void fewestFirst() {
        Run run = run("that with the fewest FITTING ones").go("floor(1, 4)", "place(0, 0, 3, 1, 0)", "stock(0, 0, 9)",
            "stock(0, 2, 9)");
        // Beside kind 1 only kind 2 fits, as it is; left of it the same; so all is known, and each STEP finds its PLACE.
        run.due("fill(0)", 1).due("about(8)", 3).due("shown(0, 0, 0)", 16).due("shown(0, 0, 2)", 16).go("place(0, 0, 0, 0, 0)")
            .due("fill(0)", 0).due("about(8)", 4);
    }

    private static void firstByRowsThenColumns() {
        Run run = new Run("of like ones the first by rows, then columns")
            .go("kind(0, 1, false, 1, 'a')", "kind(0, 1, false, 1, 'b')", "floor(2, 2)", "stock(0, 0, 1)", "stock(0, 1, 3)")
            .due("fill(0)", 1);
        run.due("shown(0, 0, 0)", 0).due("shown(0, 0, 1)", 8).due("shown(0, 1, 0)", 8).due("shown(0, 1, 1)", 8)
            .due("fills(0, 2)", 2).due("shown(0, 0, 1)", 0).due("shown(0, 0, 0)", 8);
        run.due("fills(0, 3)", 3).due("shown(0, 1, 0)", 0).due("fills(0, 4)", 4).due("shown(0, 1, 1)", 0).due("fills(0, 5)", 4);
    }

    private static void triedByKindThenMove() {
        Run run = new Run("tried by kind, then by MOVE (0 first); each try is a STEP")
            .go("kind(0, 2, true, 1, 'a')", "kind(0, 4, false, 1, 'b')", "floor(1, 1)", "stock(0, 0, 1)", "stock(0, 1, 1)");
        int[] order = {0, 1, 4, 5, 8, 9, 10, 11};
        int steps = 0;
        for (int n = 0; n < order.length; n++) {
            steps += n + 1;
            run.due("fills(0, " + (n + 1) + ")", n + 1).due("shown(0, 0, 0)", order[n]).due("about(8)", steps);
        }
        run.due("fills(0, 9)", 8).due("about(8)", steps + 8).due("fill(0)", 1).due("about(8)", steps + 9)
            .due("shown(0, 0, 0)", 0);
    }

    // The first PLACE takes the only one that is left: that the last one has none then is seen ahead of the second.
    private static void noneIsLeft() {
        Run run = run("the fewest FITTING ones, as things are (of which one is left)")
            .go("floor(3, 5)", "stock(0, 0, 1)", "stock(0, 1, 1)");
        int[][] rows = {{0, -1, -2, 1, -1}, {-2, -2, -2, -2, -2}, {0, -1, -2, -2, -2}};
        for (int n = 0; n < 15; n++) {
            run.go("place(0, " + n / 5 + ", " + n % 5 + ", " + rows[n / 5][n % 5] + ", 0)");
        }
        run.due("fill(0)", 0).due("about(8)", 1).due("forced(0)", 2).due("shown(0, 2, 1)", -1).go("stock(0, 0, 2)")
            .due("fill(0)", 1).due("about(8)", 4).due("forced(0)", 3);
    }

    private static void noneFits() {
        Run run = run("that with the fewest FITTING ones (none)")
            .go("floor(1, 4)", "stock(0, 0, 9)", "stock(0, 1, 9)", "place(0, 0, 1, 0, 0)", "place(0, 0, 3, 1, 0)");
        run.due("fill(0)", 0).due("fills(0, 9)", 0).due("cheapest(0)", -2).due("about(8)", 0).due("forced(0)", 1)
            .due("shown(0, 0, 0)", 0).due("shown(0, 0, 2)", -1);
    }

    private static void mostOfFills() {
        Run run = new Run("at most \"most\" (1 .. 1000)").go("kind(0, 4, true, 0, 'a')", "kind(0, 2, false, 0, 'b')",
            "floor(1, 3)", "floor(1, 2)");
        run.go("stock(0, 0, 9)", "stock(0, 1, 9)", "stock(1, 0, 9)")
            .refuses("fills(0, 0)", "fills(0, 1001)", "fills(0, -1)", "fills(0, MIN)", "fills(0, MAX)");
        run.due("fills(0, 1)", 1).due("about(8)", 3).due("fills(0, 999)", 999).due("fills(0, 1000)", 1000).go("stock(0, 1, 0)")
            .due("fills(0, 1000)", 512).due("fills(0, 512)", 512).due("fills(0, 511)", 511);
        run.due("fills(1, 1000)", 64).due("fills(1, 65)", 64).due("fills(1, 64)", 64).due("fills(1, 63)", 63);
    }

    /**
     * PLACES apart from one another, each beside a GIVEN one of its colour, with 3, 9, 10, 10 and 10 FITTING ones; the last of
     * them lies beside a PLACE that never FITS it. All of the search, 3 * (1 + 9 * (1 + 10 * (1 + 10 * (1 + 10)))) = 30,000
     * STEPS, is in vain.
     */
    private static Run inVain(String sentence) {
        Run run = new Run(sentence).go("kind(0x5555, 1, false, 0, 'e')", "kind(0x1111, 2, false, 0, 'a')",
            "kind(0x1111, 1, false, 0, 'aa')", "kind(0x2222, 4, true, 0, 'b')", "kind(0x2222, 1, false, 0, 'bb')",
            "kind(0x3333, 4, true, 0, 'c')", "kind(0x3333, 2, false, 0, 'cc')", "kind(0x4444, 4, true, 0, 'd')",
            "kind(0x4444, 4, true, 0, 'dd')", "floor(5, 8)");
        for (int k = 0; k < 9; k++) {
            run.go("stock(0, " + k + ", 99)");
        }
        int[][] rows = {{1, -1, -2, 3, -1, -2, 5, -1}, {-2, -2, -2, -2, -2, -2, -2, -2}, {5, -1, -2, 5, -1, -1, 7, -2}, {-2, -2,
            -2, -2, -2, -2, -2, -2}, {0, -2, -2, -2, -2, -2, -2, -2}};
        for (int i = 0; i < 5; i++) {
            for (int j = 0; j < 8; j++) {
                run.go("place(0, " + i + ", " + j + ", " + rows[i][j] + ", 0)");
            }
        }
        return run;
    }

    // Beside the GIVEN one of the lowest row just one FITS: it is tried first, and once.
    private static final String ONE_STEP_MORE = "place(0, 4, 1, -1, 0)";

    /**
     * Where the first PLACE gets kind 0 there is just one FILL, by 7 STEPS; where it gets kind 1 there is none, and the search
     * for it is long: 8 + 8 * 8 and so on, as often as there are ones of kind 3.
     */
    private static Run fork(String sentence, int ofKindThree) {
        Run run = new Run(sentence).go("kind(0x6519, 4, false, 0, 'a')", "kind(0x8729, 4, false, 0, 'b')",
            "kind(0x1111, 1, false, 1, 'f')", "kind(0x2222, 4, true, 0, 'd')", "kind(0x9999, 1, false, 0, 'g')", "floor(2, 7)",
            "place(0, 0, 0, 4, 0)");
        for (int j = 1; j < 7; j++) {
            run.go("place(0, 0, " + j + ", -2, 0)");
        }
        return run.go("stock(0, 0, 1)", "stock(0, 1, 1)", "stock(0, 2, 9)", "stock(0, 3, " + ofKindThree + ")");
    }

    private static void filledNotFilledNotKnown() {
        Run run = inVain("1; 0: there is none; 2: not known (STEPS). (It shows nothing with 0 and 2.)")
            .go("place(0, 2, 5, -2, 0)").due("fill(0)", 1);
        run.due("shown(0, 2, 4)", 40).due("shown(0, 0, 1)", 8).go("place(0, 2, 5, -1, 0)").due("shown(0, 2, 4)", 40)
            .due("fill(0)", 0);
        run.due("shown(0, 2, 4)", -1).due("shown(0, 0, 1)", -1).due("shown(0, 2, 3)", 40).due("shown(0, 1, 1)", -2);
        run.go("place(0, 2, 5, -2, 0)").due("fill(0)", 1).go("place(0, 2, 5, -1, 0)", ONE_STEP_MORE).due("shown(0, 2, 4)", 40)
            .due("fill(0)", 2);
        run.due("shown(0, 2, 4)", -1).due("shown(0, 0, 1)", -1).due("shown(0, 4, 1)", -1).due("shown(0, 2, 3)", 40);
    }

    private static void fillsThatAreShown() {
        Run run = run("the latest is shown (nothing without one)").go("floor(1, 1)", "stock(0, 0, 1)", "stock(0, 1, 1)")
            .due("fills(0, 1)", 1);
        run.due("shown(0, 0, 0)", 0).due("fills(0, 9)", 2).due("shown(0, 0, 0)", 8).go("stock(0, 0, 0)", "stock(0, 1, 0)")
            .due("fills(0, 9)", 0);
        run.due("shown(0, 0, 0)", -1);
        Run known = fork("How many FILLS there are (known)", 4).due("fills(0, 1000)", 1).due("about(8)", 4688)
            .due("shown(0, 1, 0)", 0).due("shown(0, 1, 6)", 16);
        known.due("fill(0)", 1).due("about(8)", 4695).due("fills(0, 1)", 1).due("about(8)", 4702);
        Run notKnown = fork("-2: not known (what was found is shown, too)", 5).due("fills(0, 1000)", -2).due("about(8)", 30000);
        notKnown.due("shown(0, 1, 0)", 0).due("shown(0, 1, 1)", 16).due("shown(0, 1, 6)", 16).due("fills(0, 1)", 1)
            .due("fills(0, 2)", -2).due("about(8)", 60007);
        notKnown.go("stock(0, 0, 0)").due("fills(0, 1)", -2).due("shown(0, 1, 0)", -1).due("shown(0, 1, 6)", -1);
    }

    private static void thirtyThousandSteps() {
        Run run = inVain("A search makes 30,000 STEPS at most").due("fill(0)", 0).due("about(8)", 30000).due("fills(0, 1000)", 0)
            .due("about(8)", 60000);
        run.due("cheapest(0)", -2).due("about(8)", 90000).go(ONE_STEP_MORE).due("fill(0)", 2).due("about(8)", 120000)
            .due("fills(0, 1)", -2);
        run.due("about(8)", 150000).due("cheapest(0)", -3).due("about(8)", 180000).go("place(0, 4, 1, -2, 0)").due("fill(0)", 0);
    }

    /**
     * After one STEP where just one FITS, the first PLACE takes the only one of kind 16, which the last PLACE needs: 1 + 4 * (1 +
     * 17 * (1 + 20 * (1 + 21))) STEPS in vain. Then it takes kind 17, and each of 6 STEPS finds its PLACE: the last is the
     * 30,000th.
     */
    private static Run atLast(String sentence) {
        String[] kinds = {"0x5555, 1, false", "0x2222, 4, false", "0x3333, 4, true", "0x3333, 4, true", "0x3333, 1, false",
            "0x4444, 4, true", "0x4444, 4, true", "0x4444, 4, false", "0x6666, 4, true", "0x6666, 4, true", "0x6666, 4, false",
            "0x6666, 1, false", "0x7777, 4, true", "0x7777, 4, true", "0x7777, 4, true", "0x8888, 1, false", "0x6971, 4, false",
            "0x1111, 1, false"};
        Run run = new Run(sentence);
        for (int k = 0; k < kinds.length; k++) {
            run.go("kind(" + kinds[k] + ", 0, 'k" + (char) ('a' + k) + "')");
        }
        run.go("floor(5, 8)");
        for (int k = 0; k < kinds.length; k++) {
            run.go("stock(0, " + k + ", " + (k == 16 ? 1 : 99) + ")");
        }
        int[][] rows = {{17, -1, -2, 1, -1, -2, 2, -1}, {-2, -2, -2, -2, -2, -2, -2, -2}, {5, -1, -2, 8, -1, -1, 12, -2}, {-2,
            -2, -2, -2, -2, -2, -2, -2}, {0, -1, -2, -2, -2, -2, -2, -2}};
        for (int n = 0; n < 40; n++) {
            run.go("place(0, " + n / 8 + ", " + n % 8 + ", " + rows[n / 8][n % 8] + ", 0)");
        }
        return run;
    }

    private static void foundByTheLastStep() {
        Run run = atLast("A search makes 30,000 STEPS at most (the last finds the FILL)").due("fill(0)", 1)
            .due("about(8)", 30000).due("shown(0, 0, 1)", 136).due("shown(0, 2, 5)", 128);
        run.due("fills(0, 1)", 1).due("about(8)", 60000).due("fills(0, 2)", -2).due("about(8)", 90000).due("shown(0, 2, 5)", 128);
        // Nothing costs less than 0, so that all that is left is passed over, without a STEP.
        run.due("cheapest(0)", 0).due("about(8)", 120000).due("shown(0, 2, 5)", 128).go("place(0, 4, 2, -1, 0)");
        run.due("fill(0)", 2).due("shown(0, 2, 5)", -1).due("fills(0, 1)", -2).due("cheapest(0)", -3).due("shown(0, 2, 5)", -1)
            .due("about(8)", 210000);
        run.go("place(0, 4, 1, -2, 0)", "place(0, 4, 2, -2, 0)").due("fill(0)", 1).due("about(8)", 239999);
    }

    private static void stepsOfALife() {
        for (int columns = 3; columns <= 4; columns++) {
            Run run = inVain("an office 600,000 STEPS in its life").go("floor(1, " + columns + ")", "stock(1, 0, 9)")
                .times(19, "fill(0)");
            run.due("about(8)", 570000).go("place(0, 0, 1, -2, 0)").times(3, "fill(0)").due("about(8)", 599997);
            run.due("fill(1)", columns == 3 ? 1 : 2).due("about(8)", 600000).due("shown(1, 0, 0)", columns == 3 ? 0 : -1);
            run.due("fill(1)", 2).due("shown(1, 0, 0)", -1).due("fills(1, 1)", -2).due("cheapest(1)", -3).due("fill(0)", 2)
                .due("about(8)", 600000);
            run.due("forced(1)", columns).due("shown(1, 0, 0)", 0).go("stock(1, 0, 0)").due("fill(1)", 0).due("fills(1, 1)", 0)
                .due("cheapest(1)", -2);
            for (int j = 0; j < columns; j++) {
                run.go("place(1, 0, " + j + ", 1, 0)");
            }
            run.due("fill(1)", 1).due("fills(1, 9)", 1).due("cheapest(1)", 0).due("about(8)", 600000);
        }
    }

    private static void asMuchAsTheBest() {
        int[][] costs = {{4, 5, 4, 1}, {4, 4, 4, 1}, {4, 3, 3, 2}, {0, 0, 0, 1}, {1000, 999, 999, 2}};
        for (int[] c : costs) {
            Run run = new Run("passed over (without a STEP) if the COSTS come to as much as the best FILL so far, or more");
            run.go("kind(0, 1, false, " + c[0] + ", 'a')", "kind(0, 1, false, " + c[1] + ", 'b')", "floor(1, 1)",
                "stock(0, 0, 1)", "stock(0, 1, 1)");
            run.due("cheapest(0)", c[2]).due("about(8)", c[3]).due("shown(0, 0, 0)", c[3] == 1 ? 0 : 8);
        }
        Run ahead = new Run("passed over: the COSTS of what lies, it too, and of each PLACE that has nothing then")
            .go("kind(0, 1, false, 9, 'a')", "kind(0, 1, false, 4, 'b')", "floor(1, 3)", "stock(0, 0, 9)", "stock(0, 1, 9)");
        // aaa (27), aab (22), aba is passed over (22), abb (17), ba is passed over (17 at least), bba too (17), bbb (12).
        ahead.due("cheapest(0)", 12).due("about(8)", 9).due("shown(0, 0, 0)", 8);
        Run run = new Run("passed over (no FILL so far)").go("kind(0, 1, false, 1000, 'a')", "floor(8, 8)", "stock(0, 0, 64)")
            .due("cheapest(0)", 64000).due("about(8)", 64);
    }

    private static void leastCostOfStockAtFirst() {
        Run run = new Run("the least COST of any kind that has STOCK at first")
            .go("kind(0, 1, false, 4, 'a')", "kind(0, 1, false, 5, 'b')", "kind(0, 1, false, 0, 'c')", "floor(1, 2)",
            "stock(0, 0, 9)", "stock(0, 1, 9)");
        // a: a (8), b is passed over; b is passed over, for 4 at least come.
        run.due("cheapest(0)", 8).due("about(8)", 2).go("stock(0, 2, 1)").due("cheapest(0)", 4);
        // a: a (8), b is passed over, c (4); b is passed over; c, though none is left of it: a and b are passed over.
        run.due("about(8)", 6).due("shown(0, 0, 0)", 0).due("shown(0, 0, 1)", 16);
        Run first = new Run("the least COST of any kind (the first kind's)")
            .go("kind(0x1111, 1, false, 0, 'a')", "kind(0x2222, 1, false, 5, 'b')", "kind(0x2222, 1, false, 4, 'c')",
            "kind(0x1111, 1, false, 9, 'd')", "floor(1, 5)", "place(0, 0, 0, 1, 0)", "place(0, 0, 2, -2, 0)",
            "place(0, 0, 3, 0, 0)");
        for (int k = 0; k < 4; k++) {
            first.go("stock(0, " + k + ", 1)");
        }
        first.due("cheapest(0)", 4).due("about(8)", 4).due("shown(0, 0, 1)", 16).due("shown(0, 0, 4)", 0);
    }

    private static void costsOfWhatIsPut() {
        Run run = new Run("the COST of what is put (GIVEN ones are not counted)")
            .go("kind(0, 1, false, 1000, 'a')", "kind(0, 1, false, 3, 'b')", "floor(1, 3)", "place(0, 0, 0, 0, 0)",
            "place(0, 0, 2, -2, 0)", "stock(0, 0, 1)", "stock(0, 1, 1)");
        run.due("cheapest(0)", 3).due("about(8)", 2).go("place(0, 0, 1, 1, 0)").due("cheapest(0)", 0).due("about(8)", 2);
        run.go("place(0, 0, 1, -1, 0)", "stock(0, 1, 0)").due("cheapest(0)", 1000).go("stock(0, 0, 0)").due("cheapest(0)", -2)
            .due("shown(0, 0, 1)", -1).due("shown(0, 0, 0)", 0);
    }

    private static void bestSoFar() {
        fork("LEAST COST, which is shown (known)", 4).due("cheapest(0)", 6).due("shown(0, 1, 0)", 0).due("shown(0, 1, 6)", 16)
            .due("about(8)", 4688);
        Run run = fork("-3: not known (the best so far is shown, if there is one)", 5).due("cheapest(0)", -3)
            .due("shown(0, 1, 0)", 0).due("shown(0, 1, 6)", 16);
        run.due("about(8)", 30000).go("stock(0, 0, 0)").due("cheapest(0)", -3).due("shown(0, 1, 0)", -1)
            .due("shown(0, 1, 6)", -1);
        run.go("stock(0, 3, 4)").due("cheapest(0)", -2).due("shown(0, 1, 0)", -1);
    }

    private static void forcedWithJustOne() {
        Run run = run("all open PLACES that have nothing yet and just one FITTING one get it").go("floor(1, 1)")
            .due("forced(0)", 0).due("shown(0, 0, 0)", -1);
        run.go("stock(0, 0, 1)").due("forced(0)", 1).due("shown(0, 0, 0)", 0).due("forced(0)", 1).go("stock(0, 1, 1)")
            .due("forced(0)", 0).due("shown(0, 0, 0)", -1);
        run.go("stock(0, 0, 0)").due("forced(0)", 1).due("shown(0, 0, 0)", 8).go("stock(0, 1, 0)", "stock(0, 2, 1)")
            .due("forced(0)", 0).due("about(8)", 0);
    }

    private static void forcedAsTheRoundBegins() {
        Run run = new Run("those found as the round begins, in order, as far as they still FIT and one is left")
            .go("kind(0x1111, 1, false, 0, 'g')", "kind(0x4444, 1, false, 0, 'h')", "kind(0x1938, 4, false, 0, 'x')",
            "kind(0x3948, 4, false, 0, 'y')", "floor(1, 6)", "place(0, 0, 0, 0, 0)", "place(0, 0, 3, -2, 0)",
            "place(0, 0, 4, 1, 0)");
        // Kind 2 is forced at 1, kind 3 at 5; at 2 kind 3 is forced as well, but by then none is left.
        run.go("stock(0, 2, 1)", "stock(0, 3, 1)").due("forced(0)", 2).due("shown(0, 0, 1)", 16).due("shown(0, 0, 2)", -1)
            .due("shown(0, 0, 5)", 26);
        run.go("stock(0, 3, 2)").due("forced(0)", 3).due("shown(0, 0, 2)", 24);
        Run apart = new Run("as far as they still FIT").go("kind(0x4321, 4, false, 0, 'a')", "kind(0x4325, 4, false, 0, 'b')",
            "kind(0x1111, 1, false, 0, 'c')", "kind(0x5555, 1, false, 0, 'd')", "floor(2, 2)", "place(0, 0, 0, 2, 0)",
            "place(0, 0, 1, 3, 0)", "stock(0, 0, 1)", "stock(0, 1, 1)").due("forced(0)", 1).due("shown(0, 1, 0)", 0)
            .due("shown(0, 1, 1)", -1);
        apart.go("place(0, 1, 0, -2, 0)").due("forced(0)", 1).due("shown(0, 1, 1)", 8);
    }

    private static void forcedUntilNone() {
        Run run = run("in rounds; until a round gives none").go("floor(8, 8)", "stock(0, 0, 64)", "stock(0, 1, 64)");
        for (int i = 1; i < 8; i += 2) {
            for (int j = 0; j < 8; j++) {
                if (j != (i % 4 == 1 ? 7 : 0)) {
                    run.go("place(0, " + i + ", " + j + ", -2, 0)");
                }
            }
        }
        // A way of 36 PLACES to and fro, of which the last is GIVEN: each round gives just one.
        run.due("forced(0)", 0).go("place(0, 7, 0, 1, 0)").due("forced(0)", 35).due("shown(0, 0, 0)", 8).due("shown(0, 0, 7)", 8)
            .due("shown(0, 1, 7)", 8);
        run.go("place(0, 0, 0, 0, 0)").due("forced(0)", 33);
    }

    private static void shownOrNot() {
        Run run = new Run("8 * kind + MOVE of what was put or is GIVEN; NONE for an open one without, -2 for a HOLE, or refused");
        for (int k = 0; k < 40; k++) {
            run.go("kind(0, 4, true, 0, 'k" + (char) ('a' + k / 8) + (char) ('a' + k % 8) + "')");
        }
        run.go("floor(1, 4)", "stock(0, 39, 1)", "place(0, 0, 0, 39, 7)", "place(0, 0, 1, -2, 0)", "place(0, 0, 2, 0, 0)")
            .due("shown(0, 0, 3)", -1).due("fills(0, 1000)", 8);
        run.due("shown(0, 0, 0)", 319).due("shown(0, 0, 1)", -2).due("shown(0, 0, 2)", 0).due("shown(0, 0, 3)", 319);
        run.refuses("shown(0, 0, 4)", "shown(0, 0, -1)", "shown(0, -1, 0)", "shown(0, 1, 0)", "shown(1, 0, 0)",
            "shown(-1, 0, 0)", "shown(MIN, MIN, MIN)", "shown(MAX, MAX, MAX)");
    }

    private static void refusedSearches() {
        Run run = run("it changes nothing then (what is shown)").go("floor(1, 2)", "stock(0, 0, 2)", "place(0, 0, 1, 0, 0)")
            .due("fill(0)", 1).due("shown(0, 0, 0)", 0);
        run.refuses("fill(1)", "fills(0, 0)", "fills(0, 1001)", "fills(1, 1)", "cheapest(1)", "cheapest(-1)", "forced(1)",
            "place(0, 0, 0, 4, 0)", "place(0, 0, 0, 0, 8)", "place(0, 0, 2, -1, 0)", "stock(0, 0, 100)", "stock(0, 4, 0)");
    }
}
