/** Promises 16 to 18: region, turn, paste. */
public final class RegionTest {
    private static final Due due = new Due();
    private static final int LEAST = Integer.MIN_VALUE;
    private static final int MOST = Integer.MAX_VALUE;

    public static void main(String[] args) {
        taken();
        refused();
        turned();
        turnedCells();
        pasted();
        pastedOverItself();
        farAway();
        due.end("RegionTest");
    }

    /** Kind 0 turns and mirrors, 1 turns only, 2 turns by half only; pattern 0 has a row for SHADES 1 to 6. */
    private static TileOffice office() {
        TileOffice x = new TileOffice();
        x.kind(Due.edges(0, 1, 2, 3), 4, true, 1, 'a');
        x.kind(Due.edges(0, 1, 2, 3), 4, false, 1, 'b');
        x.kind(Due.edges(0, 1, 0, 1), 2, true, 1, 'c');
        x.pattern();
        x.insert(0, 0, 3, 0);
        x.insert(0, 1, 3, 0);
        for (int n = 0; n < 6; n++) {
            x.put(0, n / 3, n % 3, 0, 0);
            x.shade(0, n / 3, n % 3, n + 1);
        }
        x.pattern();
        for (int i = 0; i < 4; i++) {
            x.insert(1, i, 4, 0);
        }
        return x;
    }

    private static void taken() {
        TileOffice x = office();
        due.is("all", x.region(0, 0, 0, 2, 3), 6);
        x.put(1, 3, 3, 0, 0);
        due.is("kind 0 in MOVE 0 with SHADE 0", x.region(1, 0, 0, 4, 4), 1);
        x.undo();
        x.region(0, 0, 0, 2, 3);
        due.is("rows", x.about(5), 2);
        due.is("columns", x.about(6), 3);
        due.is("beyond the corner", x.region(0, 1, 2, 20, 20), 1);
        due.is("ahead of the corner", x.region(0, -19, -19, 20, 20), 1);
        due.is("rows", x.about(5), 20);
        due.is("EMPTY ones do not count", x.region(1, 0, 0, 4, 4), 0);
        due.is("no row is made", x.about(4), 19);
        due.is("taking is no change", x.about(7), 18);
    }

    private static void refused() {
        TileOffice x = office();
        x.region(0, 0, 0, 2, 3);
        due.is("no pattern", x.region(2, 0, 0, 1, 1), -1);
        due.is("pattern -1", x.region(-1, 0, 0, 1, 1), -1);
        due.is("no rows", x.region(0, 0, 0, 0, 1), -1);
        due.is("no columns", x.region(0, 0, 0, 1, 0), -1);
        due.is("21 rows", x.region(0, 0, 0, 21, 1), -1);
        due.is("21 columns", x.region(0, 0, 0, 1, 21), -1);
        due.is("least", x.region(0, 0, 0, LEAST, LEAST), -1);
        due.is("as it was", x.about(5) * 10 + x.about(6), 23);
        due.no("turn(8)", x.turn(8));
        due.no("turn(-1)", x.turn(-1));
        due.is("as it was", x.about(5) * 10 + x.about(6), 23);
        due.is("paste on no pattern", x.paste(2, 0, 0), -1);
        due.is("pattern -1", x.paste(-1, 0, 0), -1);
        TileOffice y = new TileOffice();
        y.pattern();
        due.no("no region to turn", y.turn(1));
        due.is("no region to paste", y.paste(0, 0, 0), -1);
    }

    /** The SHADES as they lie after each MOVE, row after row. */
    private static void turned() {
        int[][][] want = {{{1, 2, 3}, {4, 5, 6}}, {{4, 1}, {5, 2}, {6, 3}}, {{6, 5, 4}, {3, 2, 1}}, {{3, 6}, {2, 5}, {1, 4}},
            {{3, 2, 1}, {6, 5, 4}}, {{6, 3}, {5, 2}, {4, 1}}, {{4, 5, 6}, {1, 2, 3}}, {{1, 4}, {2, 5}, {3, 6}}};
        for (int m = 0; m < 8; m++) {
            TileOffice x = office();
            x.region(0, 0, 0, 2, 3);
            due.yes("turn(" + m + ")", x.turn(m));
            due.is("rows", x.about(5), want[m].length);
            due.is("columns", x.about(6), want[m][0].length);
            due.is("paste", x.paste(1, 0, 0), 6);
            for (int i = 0; i < want[m].length; i++) {
                for (int j = 0; j < want[m][0].length; j++) {
                    due.is("SHADE by " + m + " at " + i + ", " + j, x.at(1, i, j, 2), want[m][i][j]);
                    due.is("MOVE by " + m, x.at(1, i, j, 1), m);
                }
            }
        }
    }

    private static void turnedCells() {
        TileOffice x = office();
        for (int a = 0; a < 8; a++) {
            for (int m = 0; m < 8; m++) {
                for (int k = 0; k < 3; k++) {
                    x.put(1, 0, 0, k, a);
                    x.region(1, 0, 0, 1, 1);
                    x.turn(m);
                    x.paste(1, 3, 3);
                    due.is("kind", x.at(1, 3, 3, 0), k);
                    due.is("MOVE " + a + " of kind " + k + " by " + m, x.at(1, 3, 3, 1), lying(k, x.then(a, m)));
                }
            }
        }
    }

    private static int lying(int kind, int m) {
        return kind == 0 ? m : kind == 1 ? m % 4 : m % 2 + (m >= 4 ? 4 : 0);
    }

    private static void pasted() {
        TileOffice x = office();
        x.pattern();
        x.insert(2, 0, 2, -1);
        x.insert(2, 1, 0, 0);
        x.insert(2, 2, 5, 1);
        x.put(2, 2, 3, 1, 3);
        int made = x.about(4);
        x.region(0, 0, 0, 2, 3);
        due.is("one row of them", x.paste(2, 0, -1), 2);
        due.is("one row is made", x.about(4), made + 1);
        due.is("SHADE", x.at(2, 0, 0, 2), 2);
        due.is("into the lowest", x.paste(2, 1, 0), 2);
        due.is("SHADE 5", x.at(2, 2, 1, 2), 5);
        due.is("SHADE 6", x.at(2, 2, 2, 2), 6);
        due.is("the rest stays", x.at(2, 2, 3, 0), 1);
        int changes = x.about(7);
        due.is("beside all", x.paste(2, 0, 8), 0);
        due.is("is no change", x.about(7), changes);
        due.is("nor is a row made", x.about(4), made + 2);
        // Of this region (0, 0) is none, (0, 1) and (0, 2) are EMPTY and (1, ..) are none.
        due.is("none, EMPTY ones and none", x.region(2, 1, 0, 1, 3), 0);
        due.is("nothing comes", x.paste(2, 2, 1), 0);
        x.region(1, 0, -1, 1, 3);
        due.is("EMPTY ones come, none do not", x.paste(2, 2, 1), 2);
        due.is("stays", x.at(2, 2, 1, 2), 5);
        due.is("EMPTY", x.at(2, 2, 2, 0), -1);
        due.is("EMPTY, too", x.at(2, 2, 3, 0), -1);
        due.is("undo", x.undo(), changes);
        due.is("it is back", x.at(2, 2, 3, 1), 3);
    }

    private static void pastedOverItself() {
        TileOffice x = office();
        x.copy(0);
        x.region(0, 0, 0, 2, 3);
        due.is("over what it was read from", x.paste(0, 0, 1), 4);
        int[] want = {1, 1, 2, 4, 4, 5};
        for (int n = 0; n < 6; n++) {
            due.is("SHADE " + n, x.at(0, n / 3, n % 3, 2), want[n]);
        }
        due.no("its own row", x.shares(0, 0, 2, 0));
        due.is("the copy's is as it was", x.at(2, 0, 2, 2), 3);
        x.put(2, 0, 0, -1, 0);
        due.is("the region is as it was taken", x.paste(2, 0, 0), 6);
        due.is("SHADE", x.at(2, 0, 0, 2), 1);
    }

    private static void farAway() {
        TileOffice x = office();
        int[] far = {LEAST, LEAST + 1, MOST, MOST - 1, MOST - 19};
        for (int i : far) {
            for (int j : far) {
                due.is("region far away", x.region(0, i, j, 20, 20), 0);
                due.is("paste far away", x.paste(0, i, j), 0);
            }
            x.region(0, 0, 0, 2, 3);
            due.is("paste far below", x.paste(1, i, 0), 0);
            due.is("paste far right", x.paste(1, 0, i), 0);
        }
    }
}
