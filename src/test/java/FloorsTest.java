/** Promises 29 to 36: floor, place, stock, fill, fills, cheapest, forced, shown. */
public final class FloorsTest {
    private static final Due due = new Due();
    private static final int LEAST = Integer.MIN_VALUE;
    private static final int MOST = Integer.MAX_VALUE;

    public static void main(String[] args) {
        sixFloors();
        places();
        stocks();
        whatStays();
        firstFill();
        orderOfTries();
        fewestFirst();
        noFill();
        givenOnes();
        holesPart();
        withoutOpenPlaces();
        countedFills();
        countedByMoves();
        leastCost();
        passedOver();
        reckonedAhead();
        manyChoices();
        forcedOnes();
        forcedInRounds();
        forcedAsFarAsTheyFit();
        stepsOfOneSearch();
        stepsOfALife();
        due.end("FloorsTest");
    }

    private static void sixFloors() {
        TileOffice x = new TileOffice();
        int[][] wrong = {{0, 1}, {1, 0}, {9, 1}, {1, 9}, {-1, 1}, {LEAST, MOST}};
        for (int[] w : wrong) {
            due.is("floor(" + w[0] + ", " + w[1] + ")", x.floor(w[0], w[1]), -1);
        }
        for (int f = 0; f < 6; f++) {
            due.is("floor " + f, x.floor(f + 1, 8 - f), f);
        }
        due.is("the 7th", x.floor(1, 1), -1);
        due.is("about(3)", x.about(3), 6);
        due.is("open", x.shown(5, 5, 2), -1);
        due.is("no such column", x.shown(5, 5, 3), -2);
        due.is("no such row", x.shown(5, 6, 0), -2);
        due.is("below", x.shown(5, -1, -1), -2);
        due.is("no such floor", x.shown(6, 0, 0), -2);
        due.is("far off", x.shown(LEAST, MOST, LEAST), -2);
    }

    private static TileOffice office() {
        TileOffice x = new TileOffice();
        x.kind(Due.edges(0, 0, 0, 0), 1, false, 5, 'a');
        x.kind(Due.edges(1, 1, 1, 1), 1, false, 3, 'b');
        x.kind(Due.edges(0, 1, 0, 1), 2, false, 2, 'c');
        x.kind(Due.edges(0, 0, 1, 1), 4, true, 1, 'd');
        x.floor(2, 3);
        return x;
    }

    private static void places() {
        TileOffice x = office();
        int[][] wrong = {{1, 0, 0, 0, 0}, {-1, 0, 0, 0, 0}, {0, 2, 0, 0, 0}, {0, -1, 0, 0, 0}, {0, 0, 3, 0, 0}, {0, 0, -1, 0, 0},
            {0, 0, 0, 4, 0}, {0, 0, 0, -3, 0}, {0, 0, 0, 0, 8}, {0, 0, 0, 0, -1}, {0, MOST, LEAST, 0, 0}};
        for (int[] w : wrong) {
            due.no("place" + java.util.Arrays.toString(w), x.place(w[0], w[1], w[2], w[3], w[4]));
        }
        due.is("open still", x.shown(0, 0, 0), -1);
        due.yes("GIVEN", x.place(0, 0, 0, 2, 7));
        due.is("as it LIES", x.shown(0, 0, 0), 8 * 2 + 1);
        due.yes("GIVEN, mirrored", x.place(0, 1, 2, 3, 7));
        due.is("as it LIES", x.shown(0, 1, 2), 8 * 3 + 7);
        due.yes("a HOLE, the MOVE does not count", x.place(0, 0, 0, -2, 99));
        due.is("a HOLE", x.shown(0, 0, 0), -2);
        due.yes("open, the MOVE does not count", x.place(0, 0, 0, -1, -99));
        due.is("open", x.shown(0, 0, 0), -1);
    }

    private static void stocks() {
        TileOffice x = office();
        due.is("without STOCK there is no FILL", x.fill(0), 0);
        due.no("no floor", x.stock(1, 0, 1));
        due.no("floor -1", x.stock(-1, 0, 1));
        due.no("no kind", x.stock(0, 4, 1));
        due.no("kind -1", x.stock(0, -1, 1));
        due.no("-1 of them", x.stock(0, 0, -1));
        due.no("100 of them", x.stock(0, 0, 100));
        due.is("still none", x.fill(0), 0);
        due.yes("5 of them", x.stock(0, 0, 5));
        due.is("too few", x.fill(0), 0);
        due.is("tried in vain", x.about(8), 5);
        due.yes("99 of them", x.stock(0, 0, 99));
        due.is("enough", x.fill(0), 1);
        due.is("six STEPS more", x.about(8), 11);
        due.yes("just 6", x.stock(0, 0, 6));
        due.is("enough", x.fills(0, 1000), 1);
        due.yes("none", x.stock(0, 0, 0));
        due.is("no FILL", x.fills(0, 1000), 0);
        x.floor(1, 1);
        due.is("another floor has its own", x.fill(1), 0);
        due.yes("kind 1 there", x.stock(1, 1, 1));
        due.is("a FILL", x.fill(1), 1);
        due.is("kind 1", x.shown(1, 0, 0), 8);
    }

    private static void whatStays() {
        TileOffice x = office();
        x.stock(0, 0, 99);
        x.fill(0);
        due.is("put", x.shown(0, 1, 1), 0);
        x.place(0, 1, 1, 1, 0);
        due.is("GIVEN", x.shown(0, 1, 1), 8);
        due.is("what lies in others stays", x.shown(0, 1, 0), 0);
        x.place(0, 1, 1, -1, 0);
        due.is("nothing lies there then", x.shown(0, 1, 1), -1);
        x.place(0, 1, 0, -2, 0);
        due.is("a HOLE", x.shown(0, 1, 0), -2);
        x.stock(0, 0, 0);
        due.is("STOCK does not take it away", x.shown(0, 0, 2), 0);
        due.is("refused", x.fills(0, 0), -1);
        due.is("it stays", x.shown(0, 0, 2), 0);
        due.is("no FILL", x.fill(0), 0);
        due.is("nothing is shown", x.shown(0, 0, 2), -1);
        due.is("but the HOLE", x.shown(0, 1, 0), -2);
        x.stock(0, 0, 99);
        due.is("a FILL", x.cheapest(0), 25);
        x.place(0, 1, 0, 1, 0);
        due.is("none with that", x.fills(0, 5), 0);
        due.is("nothing is shown", x.shown(0, 0, 2), -1);
        due.is("but the GIVEN one", x.shown(0, 1, 0), 8);
    }

    private static void firstFill() {
        TileOffice x = office();
        due.is("no floor", x.fill(1), -1);
        due.is("floor -1", x.fill(-1), -1);
        x.stock(0, 1, 3);
        x.stock(0, 2, 3);
        x.place(0, 0, 0, 1, 0);
        due.is("a FILL", x.fill(0), 1);
        // The upper row is of kind 1; that one more of it lies below fails at once, so kind 2 lies there, turned.
        int[] want = {8, 8, 8, 17, 17, 17};
        for (int n = 0; n < 6; n++) {
            due.is("shown at " + n, x.shown(0, n / 3, n % 3), want[n]);
        }
        due.is("STEPS", x.about(8), 6);
    }

    // With like counts the first PLACE by rows is taken, there the first kind, there MOVE 0.
    private static void orderOfTries() {
        TileOffice x = new TileOffice();
        x.kind(Due.edges(0, 0, 0, 0), 4, true, 0, 'a');
        x.kind(Due.edges(0, 0, 0, 0), 2, true, 0, 'b');
        x.floor(2, 2);
        x.stock(0, 0, 1);
        x.stock(0, 1, 3);
        due.is("a FILL", x.fill(0), 1);
        due.is("kind 0 first", x.shown(0, 0, 0), 0);
        due.is("then kind 1", x.shown(0, 0, 1), 8);
        due.is("then kind 1", x.shown(0, 1, 0), 8);
        due.is("then kind 1", x.shown(0, 1, 1), 8);
        due.is("a STEP each", x.about(8), 4);
        due.is("the next FILL", x.fills(0, 2), 2);
        due.is("the last PLACE has the next MOVE", x.shown(0, 1, 1), 9);
        due.is("one STEP more than before", x.about(8), 9);
        due.is("the third", x.fills(0, 3), 3);
        due.is("turned by none, mirrored", x.shown(0, 1, 1), 12);
        due.is("the fifth", x.fills(0, 5), 5);
        due.is("the third PLACE", x.shown(0, 1, 0), 9);
        due.is("the last one", x.shown(0, 1, 1), 8);
    }

    private static void fewestFirst() {
        TileOffice x = new TileOffice();
        x.kind(Due.edges(0, 0, 0, 0), 1, false, 0, 'a');
        x.kind(Due.edges(0, 0, 0, 1), 1, false, 0, 'b');
        x.kind(Due.edges(0, 0, 0, 1), 4, false, 0, 'b');
        x.kind(Due.edges(1, 1, 1, 1), 1, false, 0, 'c');
        x.floor(1, 4);
        x.place(0, 0, 3, 2, 0);
        x.stock(0, 0, 9);
        x.stock(0, 1, 1);
        // Beside the GIVEN 1 only kind 1 fits, in one MOVE: it is put first, though it is the last place.
        due.is("a FILL", x.fill(0), 1);
        due.is("three STEPS", x.about(8), 3);
        due.is("kind 0", x.shown(0, 0, 0), 0);
        due.is("kind 0", x.shown(0, 0, 1), 0);
        due.is("kind 1, its 1 at the right", x.shown(0, 0, 2), 8 + 2);
    }

    private static void noFill() {
        TileOffice x = office();
        x.stock(0, 0, 99);
        x.place(0, 0, 0, 0, 0);
        x.place(0, 0, 2, 1, 0);
        due.is("0 and 1 on both sides", x.fill(0), 0);
        due.is("known without a STEP", x.about(8), 0);
        due.is("cheapest", x.cheapest(0), -2);
        due.is("fills", x.fills(0, 1), 0);
        due.is("no STEP", x.about(8), 0);
    }

    private static void givenOnes() {
        TileOffice x = office();
        x.place(0, 0, 0, 0, 0);
        x.place(0, 0, 1, 1, 0);
        x.stock(0, 0, 99);
        x.stock(0, 1, 99);
        x.stock(0, 3, 99);
        due.is("side by side", x.fill(0), 0);
        due.is("fills", x.fills(0, 10), 0);
        due.is("cheapest", x.cheapest(0), -2);
        due.is("no STEP", x.about(8), 0);
        x.place(0, 0, 1, -1, 0);
        x.place(0, 1, 0, 1, 0);
        due.is("one above the other", x.fill(0), 0);
        due.is("no STEP", x.about(8), 0);
        x.place(0, 1, 0, 0, 0);
        due.is("they fit", x.fill(0), 1);
        x.place(0, 1, 0, 2, 0);
        due.is("0 above 0, 1 at the right", x.fill(0), 1);
        x.stock(0, 0, 0);
        x.stock(0, 1, 0);
        x.stock(0, 3, 4);
        due.is("GIVEN ones need no STOCK", x.fill(0), 1);
        due.is("shown", x.shown(0, 1, 0), 16);
        x.stock(0, 3, 3);
        due.is("three for four", x.fill(0), 0);
    }

    private static void holesPart() {
        TileOffice x = office();
        for (int i = 0; i < 2; i++) {
            x.place(0, i, 0, 0, 0);
            x.place(0, i, 1, -2, 0);
            x.place(0, i, 2, 1, 0);
        }
        due.is("a HOLE fits all", x.fill(0), 1);
        x.place(0, 1, 0, -1, 0);
        x.place(0, 1, 2, -1, 0);
        x.stock(0, 0, 1);
        x.stock(0, 1, 1);
        due.is("each side its own", x.fills(0, 9), 1);
        due.is("0", x.shown(0, 1, 0), 0);
        due.is("HOLE", x.shown(0, 1, 1), -2);
        due.is("1", x.shown(0, 1, 2), 8);
    }

    private static void withoutOpenPlaces() {
        TileOffice x = office();
        x.floor(1, 1);
        x.place(1, 0, 0, -2, 0);
        due.is("a HOLE: fill", x.fill(1), 1);
        due.is("a HOLE: fills", x.fills(1, 1000), 1);
        due.is("a HOLE: cheapest", x.cheapest(1), 0);
        due.is("a HOLE: forced", x.forced(1), 0);
        x.place(1, 0, 0, 3, 6);
        due.is("GIVEN: fill", x.fill(1), 1);
        due.is("GIVEN: fills", x.fills(1, 1), 1);
        due.is("GIVEN: its COST is not counted", x.cheapest(1), 0);
        due.is("no STEP", x.about(8), 0);
    }

    private static void countedFills() {
        TileOffice x = office();
        x.stock(0, 0, 3);
        x.stock(0, 1, 99);
        due.is("most 0", x.fills(0, 0), -1);
        due.is("most 1001", x.fills(0, 1001), -1);
        due.is("most -1", x.fills(0, -1), -1);
        due.is("no floor", x.fills(1, 1), -1);
        due.is("all of 1", x.fills(0, 1000), 1);
        x.floor(3, 3);
        x.kind(Due.edges(0, 0, 0, 0), 1, false, 5, 'e');
        x.stock(1, 0, 9);
        x.stock(1, 4, 9);
        due.is("two kinds in nine places", x.fills(1, 1000), 512);
        due.is("at most 512", x.fills(1, 512), 512);
        due.is("at most 511", x.fills(1, 511), 511);
        due.is("the last but one", x.shown(1, 2, 2), 0);
        due.is("above it", x.shown(1, 2, 1), 32);
        x.stock(1, 4, 2);
        due.is("at most two of one kind", x.fills(1, 1000), 1 + 9 + 36);
        x.stock(1, 0, 7);
        due.is("just seven and two", x.fills(1, 1000), 36);
        due.is("the latest is shown", x.shown(1, 0, 0), 32);
        due.is("the latest is shown", x.shown(1, 0, 1), 32);
        due.is("the latest is shown", x.shown(1, 2, 2), 0);
    }

    private static void countedByMoves() {
        TileOffice x = new TileOffice();
        x.kind(Due.edges(0, 0, 0, 0), 4, true, 0, 'a');
        x.kind(Due.edges(0, 0, 0, 0), 4, false, 0, 'b');
        x.kind(Due.edges(0, 0, 0, 0), 2, true, 0, 'c');
        x.kind(Due.edges(0, 0, 0, 0), 1, true, 0, 'd');
        x.kind(Due.edges(0, 0, 0, 0), 1, false, 0, 'e');
        x.floor(1, 1);
        int[] want = {8, 4, 4, 2, 1};
        int steps = 0;
        for (int k = 0; k < 5; k++) {
            x.stock(0, k, 1);
            due.is("MOVES as it LIES", x.fills(0, 1000), want[k]);
            steps += want[k];
            due.is("a STEP each", x.about(8), steps);
            x.stock(0, k, 0);
        }
    }

    private static void leastCost() {
        TileOffice x = office();
        due.is("no floor", x.cheapest(1), -1);
        due.is("no STOCK", x.cheapest(0), -2);
        x.stock(0, 0, 99);
        due.is("six of 5", x.cheapest(0), 30);
        x.stock(0, 1, 99);
        due.is("six of 3", x.cheapest(0), 18);
        due.is("shown", x.shown(0, 1, 2), 8);
        x.place(0, 0, 0, 0, 0);
        due.is("GIVEN ones are not counted, and all are like it", x.cheapest(0), 25);
        x.stock(0, 3, 1);
        // 1s at two edges beside 0s: in a corner at the rim it takes the place of one of kind 0.
        due.is("one of 1 for one of 5", x.cheapest(0), 21);
        x.stock(0, 0, 0);
        x.stock(0, 1, 0);
        due.is("one of five", x.cheapest(0), -2);
        due.is("nothing is shown", x.shown(0, 0, 1), -1);
    }

    // Two kinds that fit all over: the dear one is tried first, then each cheaper FILL, and no other one.
    private static void passedOver() {
        TileOffice x = new TileOffice();
        x.kind(0, 1, false, 9, 'a');
        x.kind(0, 1, false, 4, 'b');
        x.floor(1, 2);
        x.stock(0, 0, 9);
        x.stock(0, 1, 9);
        due.is("the least", x.cheapest(0), 8);
        // a: a (18), b (13); b: a is passed over (4 + 9 = 13), b (8).
        due.is("STEPS", x.about(8), 5);
        due.is("shown", x.shown(0, 0, 0) + x.shown(0, 0, 1), 16);
        x.stock(0, 1, 1);
        due.is("one of them", x.cheapest(0), 13);
        // a: a (18), b (13); b: 4 and at least 4 is less than 13, then a is passed over.
        due.is("STEPS", x.about(8), 9);
        due.is("the first that is as cheap", x.shown(0, 0, 1), 8);
        x.stock(0, 1, 0);
        due.is("none of them", x.cheapest(0), 18);
        due.is("STEPS", x.about(8), 11);
        x.kind(0, 1, false, 0, 'c');
        x.stock(0, 2, 2);
        due.is("for nothing", x.cheapest(0), 0);
        // a: a (18), c (9); c: a is 9 and passed over, c (0).
        due.is("STEPS", x.about(8), 16);
    }

    // What waits is reckoned with the least COST of the kinds that have STOCK, and of no other.
    private static void reckonedAhead() {
        TileOffice x = new TileOffice();
        x.kind(0, 1, false, 4, 'a');
        x.kind(0, 1, false, 5, 'b');
        x.kind(0, 1, false, 0, 'c');
        x.floor(1, 2);
        x.stock(0, 0, 9);
        x.stock(0, 1, 9);
        due.is("the least", x.cheapest(0), 8);
        // a: a (8), b is passed over (9); b is passed over, for 4 at least come.
        due.is("STEPS", x.about(8), 2);
        x.place(0, 0, 0, 1, 0);
        due.is("a GIVEN one counts nowhere", x.cheapest(0), 4);
        due.is("STEPS", x.about(8), 3);
    }

    private static void manyChoices() {
        TileOffice x = new TileOffice();
        for (int k = 0; k < 40; k++) {
            int right = k == 39 ? 15 : 0;
            x.kind(Due.edges(0, right, 0, 0), 4, true, k, Due.name("k" + (char) ('a' + k % 26) + (char) ('a' + k / 26)));
        }
        x.floor(1, 3);
        for (int k = 0; k < 40; k++) {
            x.stock(0, k, 1);
        }
        x.place(0, 0, 0, 39, 0);
        due.is("a FILL", x.fill(0), 1);
        due.is("the only kind with 15, its 15 at the left", x.shown(0, 0, 1), 8 * 39 + 2);
        due.is("beside it the first", x.shown(0, 0, 2), 0);
        due.is("two MOVES of it, and the others in 8 each", x.fills(0, 1000), 2 * 39 * 8);
        due.is("the latest", x.shown(0, 0, 1), 8 * 39 + 4);
        due.is("the latest", x.shown(0, 0, 2), 8 * 38 + 7);
        x.place(0, 0, 0, -1, 0);
        x.floor(1, 1);
        x.stock(1, 39, 1);
        due.is("of the last kind alone", x.fills(1, 1000), 8);
        for (int k = 0; k < 39; k++) {
            x.stock(1, k, 1);
        }
        due.is("of all", x.fills(1, 1000), 320);
        due.is("the last", x.shown(1, 0, 0), 319);
    }

    private static void forcedOnes() {
        TileOffice x = office();
        due.is("no floor", x.forced(1), -1);
        due.is("floor -1", x.forced(-1), -1);
        due.is("no STOCK", x.forced(0), 0);
        x.stock(0, 0, 99);
        due.is("one kind in one MOVE: all", x.forced(0), 6);
        due.is("shown", x.shown(0, 1, 2), 0);
        due.is("once more", x.forced(0), 6);
        x.stock(0, 0, 4);
        due.is("as far as one is left", x.forced(0), 4);
        due.is("in order", x.shown(0, 1, 0), 0);
        due.is("in order", x.shown(0, 1, 1), -1);
        x.stock(0, 1, 1);
        due.is("two fit all over", x.forced(0), 0);
        due.is("nothing is shown then", x.shown(0, 0, 0), -1);
        due.is("no STEP", x.about(8), 0);
    }

    private static void forcedInRounds() {
        TileOffice x = office();
        x.stock(0, 0, 99);
        x.stock(0, 1, 99);
        x.place(0, 1, 2, 1, 0);
        due.is("from the GIVEN one on", x.forced(0), 5);
        due.is("shown", x.shown(0, 0, 0), 8);
        x.place(0, 0, 1, -2, 0);
        x.place(0, 1, 1, -2, 0);
        due.is("as far as the HOLES", x.forced(0), 1);
        due.is("above it", x.shown(0, 0, 2), 8);
        due.is("beyond", x.shown(0, 0, 0), -1);
        x.place(0, 0, 0, 0, 0);
        x.place(0, 0, 1, 1, 0);
        due.is("GIVEN ones that don't fit do not stop it", x.forced(0), 2);
        due.is("below 0", x.shown(0, 1, 0), 0);
    }

    // Both ends want the one kind that is there once: it goes to the first, the other gets none.
    private static void forcedAsFarAsTheyFit() {
        TileOffice x = new TileOffice();
        x.kind(Due.edges(2, 2, 2, 2), 1, false, 0, 'a');
        x.kind(Due.edges(2, 0, 2, 0), 2, false, 0, 'b');
        x.kind(Due.edges(0, 0, 0, 0), 1, false, 0, 'c');
        x.floor(1, 4);
        x.place(0, 0, 0, 2, 0);
        x.place(0, 0, 3, 2, 0);
        x.stock(0, 1, 1);
        due.is("one is left for one", x.forced(0), 1);
        due.is("the first", x.shown(0, 0, 1), 8);
        due.is("the second", x.shown(0, 0, 2), -1);
        // Two that are forced in one round, but do not fit each other.
        TileOffice y = new TileOffice();
        y.kind(Due.edges(1, 3, 5, 4), 4, false, 0, 'a');
        y.kind(Due.edges(2, 6, 5, 7), 4, false, 0, 'b');
        y.kind(Due.edges(1, 1, 1, 1), 1, false, 0, 'c');
        y.kind(Due.edges(2, 2, 2, 2), 1, false, 0, 'd');
        y.floor(2, 2);
        y.place(0, 0, 0, 2, 0);
        y.place(0, 0, 1, 3, 0);
        y.stock(0, 0, 9);
        y.stock(0, 1, 9);
        due.is("one of two", y.forced(0), 1);
        due.is("the first", y.shown(0, 1, 0), 0);
        due.is("not the second", y.shown(0, 1, 1), -1);
    }

    /** A floor on which a search goes on for very long in vain: an odd one out among many that fit. */
    private static TileOffice endless() {
        TileOffice x = new TileOffice();
        x.kind(Due.edges(0, 0, 0, 0), 4, true, 1, 'a');
        x.kind(Due.edges(1, 1, 1, 1), 1, false, 1, 'b');
        x.floor(8, 8);
        x.stock(0, 0, 63);
        return x;
    }

    private static void stepsOfOneSearch() {
        TileOffice x = endless();
        due.is("63 for 64", x.fill(0), 2);
        due.is("30,000 STEPS", x.about(8), 30000);
        due.is("nothing is shown", x.shown(0, 0, 0), -1);
        due.is("fills", x.fills(0, 1000), -2);
        due.is("60,000 STEPS", x.about(8), 60000);
        due.is("cheapest", x.cheapest(0), -3);
        due.is("90,000 STEPS", x.about(8), 90000);
        x.stock(0, 0, 64);
        due.is("a FILL", x.fill(0), 1);
        due.is("64 STEPS", x.about(8), 90064);
        due.is("1000 FILLS", x.fills(0, 1000), 1000);
        x.kind(0, 1, false, 0, 'c');
        x.stock(0, 2, 1);
        due.is("not known", x.cheapest(0), -3);
        due.is("the best so far is shown", x.shown(0, 0, 0), 0);
        // 4 + 4 * 4 + ... over seven places is 21,844 STEPS: known; over eight it is not.
        TileOffice y = new TileOffice();
        y.kind(0, 4, false, 0, 'a');
        y.floor(1, 8);
        y.stock(0, 0, 7);
        due.is("known", y.fill(0), 0);
        due.is("STEPS", y.about(8), 21844);
        y.stock(0, 0, 8);
        due.is("at most 1000", y.fills(0, 1000), 1000);
    }

    private static void stepsOfALife() {
        TileOffice x = endless();
        x.floor(1, 1);
        x.stock(1, 0, 1);
        for (int n = 1; n <= 19; n++) {
            due.is("not known", x.fill(0), 2);
            due.is("STEPS", x.about(8), 30000 * n);
        }
        due.is("one STEP", x.fill(1), 1);
        due.is("the rest", x.fill(0), 2);
        due.is("the life's STEPS", x.about(8), 600000);
        due.is("none is left", x.fill(1), 2);
        due.is("nothing is shown", x.shown(1, 0, 0), -1);
        due.is("fills", x.fills(1, 1), -2);
        due.is("cheapest", x.cheapest(1), -3);
        due.is("forced needs none", x.forced(1), 0);
        x.stock(1, 0, 0);
        due.is("there is none, without a STEP", x.fill(1), 0);
        x.place(1, 0, 0, 0, 0);
        due.is("a FILL without a STEP", x.fill(1), 1);
        due.is("the life's STEPS", x.about(8), 600000);
    }
}
