/** Promises 19 to 22: rule, becomes, grow, foretold. */
public final class RulesTest {
    private static final Due due = new Due();
    private static final int LEAST = Integer.MIN_VALUE;
    private static final int MOST = Integer.MAX_VALUE;

    public static void main(String[] args) {
        eightRules();
        refusedBlocks();
        grownOnce();
        grownTurned();
        grownTwice();
        notSquare();
        turnedFarIn();
        fortyKindsInABlock();
        tooGreat();
        grownByNone();
        counted();
        countedFar();
        due.end("RulesTest");
    }

    private static TileOffice office() {
        TileOffice x = new TileOffice();
        x.kind(Due.edges(0, 1, 2, 3), 4, true, 1, 'a');
        x.kind(Due.edges(0, 0, 0, 0), 1, false, 1, 'b');
        x.kind(Due.edges(0, 1, 0, 1), 2, true, 1, 'c');
        x.pattern();
        return x;
    }

    private static void eightRules() {
        TileOffice x = office();
        int[][] wrong = {{0, 1}, {1, 0}, {5, 1}, {1, 5}, {-1, 1}, {LEAST, MOST}};
        for (int[] w : wrong) {
            due.is("rule(" + w[0] + ", " + w[1] + ")", x.rule(w[0], w[1]), -1);
        }
        for (int r = 0; r < 8; r++) {
            due.is("rule " + r, x.rule(1 + r % 4, 4 - r % 4), r);
        }
        due.is("the 9th", x.rule(1, 1), -1);
        due.is("about(2)", x.about(2), 8);
    }

    private static void refusedBlocks() {
        TileOffice x = office();
        x.rule(2, 3);
        int[][] wrong = {{1, 0, 0, 0, 0, 0}, {-1, 0, 0, 0, 0, 0}, {0, 3, 0, 0, 0, 0}, {0, -1, 0, 0, 0, 0}, {0, 0, 2, 0, 0, 0},
            {0, 0, -1, 0, 0, 0}, {0, 0, 0, 3, 0, 0}, {0, 0, 0, -1, 0, 0}, {0, 0, 0, 0, 3, 0}, {0, 0, 0, 0, -2, 0},
            {0, 0, 0, 0, 0, 8}, {0, 0, 0, 0, 0, -1}, {0, 0, MOST, LEAST, 0, 0}};
        for (int[] w : wrong) {
            due.no("becomes" + java.util.Arrays.toString(w), x.becomes(w[0], w[1], w[2], w[3], w[4], w[5]));
        }
        due.is("nothing came of it", x.foretold(0, 0, 1, 0), 0);
        due.yes("the last place", x.becomes(0, 0, 1, 2, 0, 7));
        due.is("one", x.foretold(0, 0, 1, 0), 1);
        due.yes("EMPTY again", x.becomes(0, 0, 1, 2, -1, 0));
        due.is("none", x.foretold(0, 0, 1, 0), 0);
    }

    private static void grownOnce() {
        TileOffice x = office();
        x.rule(2, 3);
        x.becomes(0, 0, 0, 1, 2, 3);
        x.becomes(0, 0, 1, 2, 1, 0);
        x.insert(0, 0, 3, -4);
        x.put(0, 0, -4, 0, 0);
        x.shade(0, 0, -4, -9);
        x.put(0, 0, -2, 1, 0);
        int made = x.about(4);
        int changes = x.about(7);
        due.is("grow", x.grow(0, 0, 1), 1);
        due.is("two rows are made", x.about(4), made + 2);
        due.is("it is no change", x.about(7), changes);
        for (int i = 0; i < 2; i++) {
            due.is("LENGTH", x.row(1, i, 0), 9);
            due.is("OFFSET", x.row(1, i, 1), -12);
        }
        due.is("no row more", x.row(1, 2, 0), -1);
        due.is("kind", x.at(1, 0, -11, 0), 2);
        due.is("MOVE as it LIES", x.at(1, 0, -11, 1), 1);
        due.is("SHADE", x.at(1, 0, -11, 2), -9);
        due.is("kind", x.at(1, 1, -10, 0), 1);
        due.is("SHADE", x.at(1, 1, -10, 2), -9);
        due.is("all others are EMPTY", x.count(1, -1), 16);
        due.yes("a later change of the block", x.becomes(0, 0, 0, 1, -1, 0));
        due.is("is not seen", x.at(1, 0, -11, 0), 2);
    }

    // The block of kind 0 has kind 0 in MOVE 0 above left alone: where it comes to and how it lies tells the MOVE.
    private static void grownTurned() {
        int[][] corner = {{0, 0}, {0, 1}, {1, 1}, {1, 0}, {0, 1}, {1, 1}, {1, 0}, {0, 0}};
        for (int m = 0; m < 8; m++) {
            for (int child = 0; child < 8; child++) {
                TileOffice x = office();
                x.rule(2, 2);
                x.becomes(0, 0, 0, 0, 0, child);
                x.insert(0, 0, 1, 0);
                x.put(0, 0, 0, 0, m);
                due.is("grow", x.grow(0, 0, 1), 1);
                due.is("by " + m, x.at(1, corner[m][0], corner[m][1], 0), 0);
                due.is("MOVE by " + m, x.at(1, corner[m][0], corner[m][1], 1), x.then(child, m));
                due.is("EMPTY ones", x.count(1, -1), 3);
            }
        }
    }

    private static void grownTwice() {
        TileOffice x = office();
        x.rule(2, 2);
        x.becomes(0, 0, 0, 1, 0, 1);
        x.becomes(0, 0, 1, 0, 1, 0);
        x.becomes(0, 1, 1, 1, 0, 6);
        x.becomes(0, 1, 0, 0, 2, 5);
        x.insert(0, 0, 2, 1);
        x.put(0, 0, 1, 0, 5);
        x.shade(0, 0, 1, 3);
        x.put(0, 0, 2, 1, 0);
        due.is("one step", x.grow(0, 0, 1), 1);
        due.is("one step more", x.grow(1, 0, 1), 2);
        due.is("two steps", x.grow(0, 0, 2), 3);
        for (int i = 0; i < 4; i++) {
            for (int j = 3; j < 13; j++) {
                for (int what = 0; what < 3; what++) {
                    due.is("at " + i + ", " + j, x.at(3, i, j, what), x.at(2, i, j, what));
                }
            }
        }
        due.is("OFFSET", x.row(3, 3, 1), 4);
        due.no("rows of its own", x.shares(2, 0, 3, 0));
    }

    private static void notSquare() {
        TileOffice x = office();
        x.rule(1, 2);
        x.becomes(0, 0, 0, 0, 0, 2);
        x.becomes(0, 0, 0, 1, 2, 1);
        x.insert(0, 0, 2, 0);
        x.put(0, 0, 0, 0, 1);
        int made = x.about(4);
        due.is("turned by one", x.grow(0, 0, 1), -1);
        due.is("nothing is made", x.about(4) - made + x.about(1), 1);
        due.is("by no step", x.grow(0, 0, 0), 1);
        x.put(0, 0, 0, 0, 7);
        due.is("turned by three, mirrored", x.grow(0, 0, 1), -1);
        x.put(0, 0, 0, 0, 6);
        due.is("turned by two, mirrored", x.grow(0, 0, 1), 2);
        due.is("first", x.at(2, 0, 0, 0), 0);
        due.is("MOVE", x.at(2, 0, 0, 1), x.then(2, 6));
        due.is("second", x.at(2, 0, 1, 0), 2);
        due.is("MOVE", x.at(2, 0, 1, 1), x.edge(2, x.then(1, 6), 4));
        due.is("the second step has a turned one", x.grow(0, 0, 2), -1);
        x.put(0, 0, 0, 0, 2);
        due.is("turned by two", x.grow(0, 0, 1), 3);
        due.is("second", x.at(3, 0, 0, 0), 2);
        due.is("first", x.at(3, 0, 1, 0), 0);
    }

    // One CELL that LIES turned, at the very end of the pattern, or only after a step, is seen.
    private static void turnedFarIn() {
        TileOffice x = office();
        x.rule(2, 3);
        x.becomes(0, 2, 0, 0, 2, 1);
        for (int i = 0; i < 10; i++) {
            x.insert(0, i, 6, -3);
        }
        due.is("all EMPTY", x.grow(0, 0, 1), 1);
        x.put(0, 9, 2, 0, 3);
        due.is("the last one is turned", x.grow(0, 0, 1), -1);
        x.put(0, 9, 2, 2, 0);
        due.is("it becomes a turned one", x.grow(0, 0, 1), 2);
        due.is("there", x.at(2, 18, 6, 1), 1);
        due.is("two steps", x.grow(0, 0, 2), -1);
    }

    private static void fortyKindsInABlock() {
        TileOffice x = new TileOffice();
        for (int k = 0; k < 40; k++) {
            x.kind(0, 4, true, 0, Due.name("k" + (char) ('a' + k % 26) + (char) ('a' + k / 26)));
        }
        x.rule(4, 4);
        for (int k = 0; k < 40; k++) {
            due.yes("becomes", x.becomes(0, k, 3, 3, 39 - k, k % 8));
        }
        x.pattern();
        x.insert(0, 0, 10, 0);
        for (int j = 0; j < 10; j++) {
            x.put(0, 0, j, 30 + j, 0);
        }
        due.is("grow", x.grow(0, 0, 1), 1);
        for (int j = 0; j < 10; j++) {
            due.is("kind", x.at(1, 3, 4 * j + 3, 0), 9 - j);
            due.is("MOVE", x.at(1, 3, 4 * j + 3, 1), (30 + j) % 8);
        }
        due.is("the last kind", x.foretold(0, 0, 1, 39), 1);
        due.is("and back", x.foretold(0, 39, 60, 39), 1);
    }

    private static void tooGreat() {
        TileOffice x = office();
        x.rule(1, 4);
        x.rule(4, 1);
        x.rule(1, 1);
        x.insert(0, 0, 15, 7);
        due.is("just 60", x.grow(0, 0, 1), 1);
        due.is("LENGTH", x.row(1, 0, 0), 60);
        due.is("OFFSET", x.row(1, 0, 1), 28);
        due.is("a step more", x.grow(0, 0, 2), -1);
        x.insert(0, 1, 16, 0);
        due.is("64 long", x.grow(0, 0, 1), -1);
        x.remove(0, 1);
        x.insert(0, 1, 0, 8);
        due.is("OFFSET 32, though without a CELL", x.grow(0, 0, 1), -1);
        x.remove(0, 1);
        x.insert(0, 1, 1, -8);
        due.is("OFFSET -32", x.grow(0, 0, 1), -1);
        x.remove(0, 1);
        x.pattern();
        for (int i = 0; i < 15; i++) {
            x.insert(2, 0, 1, 0);
        }
        due.is("just 60 rows", x.grow(2, 1, 1), 3);
        due.is("the last", x.row(3, 59, 0), 1);
        x.insert(2, 0, 1, 0);
        due.is("64 rows", x.grow(2, 1, 1), -1);
        due.is("by 1 x 1, five times", x.grow(2, 2, 5), 4);
        due.is("six steps", x.grow(2, 2, 6), -1);
        due.is("-1 steps", x.grow(2, 2, -1), -1);
        due.is("no rule", x.grow(2, 3, 1), -1);
        due.is("no pattern", x.grow(5, 2, 1), -1);
        due.is("far off", x.grow(LEAST, MOST, MOST), -1);
        while (x.about(1) < 16) {
            x.pattern();
        }
        due.is("no pattern more", x.grow(0, 2, 1), -1);
    }

    private static void grownByNone() {
        TileOffice x = office();
        x.rule(2, 2);
        x.insert(0, 0, 3, -30);
        x.put(0, 0, -29, 0, 3);
        x.shade(0, 0, -29, 5);
        due.is("by no step", x.grow(0, 0, 0), 1);
        due.is("kind", x.at(1, 0, -29, 0), 0);
        due.is("MOVE", x.at(1, 0, -29, 1), 3);
        due.is("SHADE", x.at(1, 0, -29, 2), 5);
        due.no("a row of its own", x.shares(0, 0, 1, 0));
        due.is("ROWS MADE", x.about(4), 4);
    }

    private static void counted() {
        TileOffice x = office();
        x.rule(2, 2);
        x.becomes(0, 0, 0, 0, 0, 1);
        x.becomes(0, 0, 1, 1, 1, 0);
        x.becomes(0, 1, 0, 1, 0, 4);
        x.insert(0, 0, 1, 0);
        x.put(0, 0, 0, 0, 3);
        for (int d = 0; d <= 5; d++) {
            int p = x.grow(0, 0, d);
            for (int k = 0; k < 3; k++) {
                due.is("foretold by " + d, x.foretold(0, 0, d, k), x.count(p, k));
            }
        }
        due.is("no rule", x.foretold(1, 0, 1, 0), -1);
        due.is("no kind", x.foretold(0, 3, 1, 0), -1);
        due.is("no kind", x.foretold(0, 0, 1, 3), -1);
        due.is("kind NONE", x.foretold(0, 0, 1, -1), -1);
        due.is("-1 steps", x.foretold(0, 0, -1, 0), -1);
        due.is("61 steps", x.foretold(0, 0, 61, 0), -1);
        due.is("Fibonacci's", x.foretold(0, 0, 60, 0), 2504730781961L);
        due.is("never one", x.foretold(0, 0, 60, 2), 0);
    }

    // 2 and then 4 to a step: 2^62 is told, 2^63 is not; what is too many for one kind is none of another's.
    private static void countedFar() {
        TileOffice x = office();
        x.rule(2, 2);
        for (int n = 0; n < 4; n++) {
            x.becomes(0, 0, n / 2, n % 2, 0, 0);
        }
        due.is("4^31", x.foretold(0, 0, 31, 0), 1L << 62);
        due.is("4^32", x.foretold(0, 0, 32, 0), -2);
        due.is("4^60", x.foretold(0, 0, 60, 0), -2);
        due.is("none of it", x.foretold(0, 0, 60, 1), 0);
        due.is("itself", x.foretold(0, 1, 0, 1), 1);
        due.is("gone", x.foretold(0, 1, 1, 1), 0);
        x.becomes(0, 0, 0, 0, 1, 0);
        due.is("3^39", x.foretold(0, 0, 39, 0), 4052555153018976267L);
        due.is("3^40", x.foretold(0, 0, 40, 0), -2);
        due.is("of the last step alone", x.foretold(0, 0, 40, 1), 4052555153018976267L);
        due.is("3^40 of it", x.foretold(0, 0, 41, 1), -2);
        // Kind 2 becomes one of itself and kind 1 one, each step: 2^63 - 1 ones would need the sum to be exact.
        x.rule(1, 3);
        x.becomes(1, 0, 0, 0, 0, 0);
        x.becomes(1, 0, 0, 1, 0, 0);
        x.becomes(1, 0, 0, 2, 1, 0);
        x.becomes(1, 1, 0, 0, 1, 0);
        due.is("2^60 - 1", x.foretold(1, 0, 60, 1), (1L << 60) - 1);
        // 7 * 8^20 of 8 to a step, and what was kept: just 2^63 - 1 in all.
        x.rule(3, 3);
        for (int n = 0; n < 8; n++) {
            x.becomes(2, 0, n / 3, n % 3, 0, 0);
        }
        due.is("8^20", x.foretold(2, 0, 20, 0), 1L << 60);
        due.is("8^21", x.foretold(2, 0, 21, 0), -2);
        x.rule(4, 4);
        for (int n = 0; n < 7; n++) {
            x.becomes(3, 0, n / 4, n % 4, 1, 0);
        }
        for (int n = 7; n < 15; n++) {
            x.becomes(3, 0, n / 4, n % 4, 0, 0);
        }
        x.becomes(3, 1, 0, 0, 1, 0);
        due.is("8^21 - 1, the greatest", x.foretold(3, 0, 21, 1), Long.MAX_VALUE);
        due.is("8^22 - 1", x.foretold(3, 0, 22, 1), -2);
        due.is("8^21", x.foretold(3, 0, 21, 0), -2);
    }
}
