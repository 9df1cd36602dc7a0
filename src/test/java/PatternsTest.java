/** Promises 6 to 15 and 37: patterns, their ROWS and CELLS, what is shared, and undo. */
public final class PatternsTest {
    private static final Due due = new Due();
    private static final int LEAST = Integer.MIN_VALUE;
    private static final int MOST = Integer.MAX_VALUE;

    public static void main(String[] args) {
        sixteenPatterns();
        insertedRows();
        sixtyRows();
        removedAndMovedRows();
        cells();
        shades();
        sharedRows();
        newRowsEachTime();
        undone();
        fortyChanges();
        sixThousandRows();
        theLastRows();
        sixtyRowsCopiedAndUndone();
        due.end("PatternsTest");
    }

    private static TileOffice office() {
        TileOffice x = new TileOffice();
        x.kind(Due.edges(0, 0, 0, 0), 1, false, 3, 'a');
        x.kind(Due.edges(0, 1, 0, 1), 2, false, 2, 'b');
        x.kind(Due.edges(0, 1, 2, 3), 4, true, 1, 'c');
        x.pattern();
        return x;
    }

    private static void sixteenPatterns() {
        TileOffice x = new TileOffice();
        for (int p = 0; p < 16; p++) {
            due.is("pattern " + p, x.pattern(), p);
        }
        due.is("the 17th", x.pattern(), -1);
        due.is("a copy as the 17th", x.copy(0), -1);
        due.is("about(1)", x.about(1), 16);
        due.is("it has no row", x.row(3, 0, 0), -1);
    }

    private static void insertedRows() {
        TileOffice x = office();
        int[][] wrong = {{1, 0, 5, 0}, {-1, 0, 5, 0}, {0, -1, 5, 0}, {0, 1, 5, 0}, {0, 0, -1, 0}, {0, 0, 61, 0},
            {0, 0, 5, -31}, {0, 0, 5, 31}, {LEAST, 0, 5, 0}, {0, MOST, 5, 0}, {0, 0, MOST, 0}, {0, 0, 5, LEAST}};
        for (int[] w : wrong) {
            due.no("insert" + java.util.Arrays.toString(w), x.insert(w[0], w[1], w[2], w[3]));
        }
        due.is("no row is made", x.about(4), 0);
        due.is("no change is made", x.about(7), 0);
        due.yes("the longest", x.insert(0, 0, 60, 30));
        due.yes("the shortest, ahead", x.insert(0, 0, 0, -30));
        due.yes("behind all", x.insert(0, 2, 4, -2));
        int[][] rows = {{0, -30}, {60, 30}, {4, -2}};
        for (int i = 0; i < 3; i++) {
            due.is("LENGTH " + i, x.row(0, i, 0), rows[i][0]);
            due.is("OFFSET " + i, x.row(0, i, 1), rows[i][1]);
            due.is("places " + i, x.row(0, i, 2), 1);
        }
        due.is("row 3", x.row(0, 3, 0), -1);
        due.is("row -1", x.row(0, -1, 0), -1);
        due.is("what 3", x.row(0, 0, 3), -1);
        due.is("what -1", x.row(0, 0, -1), -1);
        due.is("of no pattern", x.row(1, 0, 0), -1);
        due.is("EMPTY", x.at(0, 1, 89, 0), -1);
        due.is("behind the last", x.at(0, 1, 90, 0), -2);
        due.is("ahead of the first", x.at(0, 1, 29, 0), -2);
        due.is("in the shortest", x.at(0, 0, -30, 0), -2);
        due.is("ROWS MADE", x.about(4), 3);
    }

    private static void sixtyRows() {
        TileOffice x = office();
        for (int i = 0; i < 60; i++) {
            due.yes("row " + i, x.insert(0, 0, i, 0));
        }
        due.no("the 61st", x.insert(0, 0, 1, 0));
        due.no("the 61st behind", x.insert(0, 60, 1, 0));
        due.is("the last in is first", x.row(0, 0, 0), 59);
        due.is("ROWS MADE", x.about(4), 60);
    }

    private static void removedAndMovedRows() {
        TileOffice x = office();
        for (int i = 0; i < 4; i++) {
            x.insert(0, i, i, 0);
        }
        due.no("remove(0, 4)", x.remove(0, 4));
        due.no("remove(0, -1)", x.remove(0, -1));
        due.no("remove(1, 0)", x.remove(1, 0));
        due.no("move(0, 0, 4)", x.move(0, 0, 4));
        due.no("move(0, 0, -1)", x.move(0, 0, -1));
        due.no("move(0, 4, 0)", x.move(0, 4, 0));
        due.no("move(0, -1, 0)", x.move(0, -1, 0));
        due.no("move(1, 0, 0)", x.move(1, 0, 0));
        due.yes("move(0, 0, 3)", x.move(0, 0, 3));
        lengths(x, 1, 2, 3, 0);
        due.yes("move(0, 2, 0)", x.move(0, 2, 0));
        lengths(x, 3, 1, 2, 0);
        due.yes("move(0, 1, 2)", x.move(0, 1, 2));
        lengths(x, 3, 2, 1, 0);
        due.is("changes", x.about(7), 7);
        due.yes("to where it is", x.move(0, 1, 1));
        lengths(x, 3, 2, 1, 0);
        due.is("that is a change", x.about(7), 8);
        due.yes("remove(0, 1)", x.remove(0, 1));
        lengths(x, 3, 1, 0);
        due.yes("remove(0, 2)", x.remove(0, 2));
        due.yes("remove(0, 0)", x.remove(0, 0));
        lengths(x, 1);
        due.yes("the last", x.remove(0, 0));
        due.no("none left", x.remove(0, 0));
        due.is("no row was made by that", x.about(4), 4);
    }

    private static void lengths(TileOffice x, int... want) {
        for (int i = 0; i < want.length; i++) {
            due.is("LENGTH of row " + i, x.row(0, i, 0), want[i]);
        }
        due.is("no row more", x.row(0, want.length, 0), -1);
    }

    private static void cells() {
        TileOffice x = office();
        x.insert(0, 0, 4, -2);
        int[][] wrong = {{1, 0, 0, 0, 0}, {-1, 0, 0, 0, 0}, {0, 1, 0, 0, 0}, {0, -1, 0, 0, 0}, {0, 0, 2, 0, 0},
            {0, 0, -3, 0, 0}, {0, 0, 0, 3, 0}, {0, 0, 0, -2, 0}, {0, 0, 0, 0, 8}, {0, 0, 0, 0, -1},
            {0, 0, LEAST, 0, 0}, {0, 0, MOST, 0, 0}, {0, 0, 0, LEAST, 0}, {0, 0, 0, 0, MOST}, {0, 0, 5, -1, 0}};
        for (int[] w : wrong) {
            due.no("put" + java.util.Arrays.toString(w), x.put(w[0], w[1], w[2], w[3], w[4]));
        }
        due.is("nothing is made", x.about(4), 1);
        due.yes("put at the first", x.put(0, 0, -2, 2, 7));
        due.yes("put at the last", x.put(0, 0, 1, 1, 7));
        due.is("kind", x.at(0, 0, -2, 0), 2);
        due.is("MOVE", x.at(0, 0, -2, 1), 7);
        due.is("as it LIES", x.at(0, 0, 1, 1), 1);
        due.is("SHADE", x.at(0, 0, 1, 2), 0);
        due.is("EMPTY still", x.at(0, 0, 0, 0), -1);
        due.is("MOVE of an EMPTY one", x.at(0, 0, 0, 1), 0);
        due.is("SHADE of an EMPTY one", x.at(0, 0, 0, 2), 0);
        due.is("none: kind", x.at(0, 0, 2, 0), -2);
        due.is("none: MOVE", x.at(0, 0, 2, 1), 0);
        due.is("none: SHADE", x.at(0, 0, 2, 2), 0);
        due.is("no row", x.at(0, MOST, 0, 0), -2);
        due.is("no row, below", x.at(0, LEAST, LEAST, 0), -2);
        due.is("no pattern", x.at(1, 0, 0, 0), -1);
        due.is("what 3", x.at(0, 0, 0, 3), -1);
        due.is("what -1", x.at(0, 0, 0, -1), -1);
        due.yes("EMPTY again, the MOVE does not count", x.put(0, 0, -2, -1, 99));
        due.is("EMPTY", x.at(0, 0, -2, 0), -1);
    }

    private static void shades() {
        TileOffice x = office();
        x.insert(0, 0, 2, 0);
        x.put(0, 0, 0, 2, 5);
        int[][] told = {{32767, 32767}, {32768, -32768}, {-1, -1}, {65536, 0}, {70000, 4464}, {LEAST, 0}, {MOST, -1}};
        for (int[] t : told) {
            due.yes("shade " + t[0], x.shade(0, 0, 0, t[0]));
            due.is("SHADE of " + t[0], x.at(0, 0, 0, 2), t[1]);
            due.is("kind", x.at(0, 0, 0, 0), 2);
            due.is("MOVE", x.at(0, 0, 0, 1), 5);
        }
        due.no("an EMPTY one", x.shade(0, 0, 1, 1));
        due.no("none", x.shade(0, 0, 2, 1));
        due.no("no row", x.shade(0, 1, 0, 1));
        due.no("no pattern", x.shade(1, 0, 0, 1));
        due.is("ROWS MADE", x.about(4), 2 + told.length);
        due.yes("put", x.put(0, 0, 0, 2, 5));
        due.is("put has SHADE 0", x.at(0, 0, 0, 2), 0);
    }

    private static void sharedRows() {
        TileOffice x = office();
        x.insert(0, 0, 3, 0);
        x.insert(0, 1, 3, 0);
        due.is("copy(1)", x.copy(1), -1);
        due.is("copy(-1)", x.copy(-1), -1);
        due.is("copy(0)", x.copy(0), 1);
        due.is("copy(1)", x.copy(1), 2);
        due.is("no row is made", x.about(4), 2);
        due.is("at three places", x.row(1, 1, 2), 3);
        due.yes("the very same", x.shares(0, 1, 2, 1));
        due.yes("with itself", x.shares(0, 1, 0, 1));
        due.no("another", x.shares(0, 0, 2, 1));
        due.no("no row", x.shares(0, 2, 2, 2));
        due.no("below", x.shares(0, -1, 2, -1));
        due.no("no pattern", x.shares(3, 0, 3, 0));
        due.yes("put", x.put(1, 0, 0, 0, 0));
        due.no("its own now", x.shares(0, 0, 1, 0));
        due.yes("the others share still", x.shares(0, 0, 2, 0));
        due.is("two places", x.row(0, 0, 2), 2);
        due.is("one place", x.row(1, 0, 2), 1);
        due.is("the others are as they were", x.at(0, 0, 0, 0), -1);
        due.is("nor this one", x.at(2, 0, 0, 0), -1);
        due.yes("the row that is moved is the same", x.move(2, 0, 1) && x.shares(0, 0, 2, 1));
        due.yes("remove", x.remove(2, 1));
        due.is("one place fewer", x.row(0, 0, 2), 1);
    }

    private static void newRowsEachTime() {
        TileOffice x = office();
        x.insert(0, 0, 3, 0);
        due.yes("EMPTY as it was", x.put(0, 0, 0, -1, 0));
        due.is("a row is made", x.about(4), 2);
        x.put(0, 0, 0, 2, 1);
        x.copy(0);
        due.yes("the same tile", x.put(0, 0, 0, 2, 1));
        due.no("is a new row", x.shares(0, 0, 1, 0));
        due.yes("the same shade", x.shade(1, 0, 0, 0));
        due.is("is one, too", x.about(4), 5);
        due.is("changes", x.about(7), 5);
    }

    private static void undone() {
        TileOffice x = office();
        due.is("nothing to undo", x.undo(), -1);
        x.insert(0, 0, 3, 0);
        x.insert(0, 1, 4, 0);
        x.put(0, 0, 0, 2, 1);
        x.shade(0, 0, 0, 7);
        due.is("a copy is no change", x.copy(0), 1);
        due.is("a pattern is no change", x.pattern(), 2);
        x.move(0, 0, 1);
        x.remove(0, 0);
        x.put(1, 1, 3, 1, 0);
        due.is("changes", x.about(7), 7);
        due.is("put of the other", x.undo(), 6);
        due.is("EMPTY again", x.at(1, 1, 3, 0), -1);
        due.is("remove", x.undo(), 5);
        due.is("LENGTH", x.row(0, 0, 0), 4);
        due.yes("the very row", x.shares(0, 0, 1, 1));
        due.is("move", x.undo(), 4);
        due.yes("the very row, first again", x.shares(0, 0, 1, 0));
        due.is("shade", x.undo(), 3);
        due.is("SHADE", x.at(0, 0, 0, 2), 0);
        due.is("the copy has it still", x.at(1, 0, 0, 2), 7);
        due.is("put", x.undo(), 2);
        due.is("EMPTY", x.at(0, 0, 0, 0), -1);
        due.is("insert", x.undo(), 1);
        due.is("insert", x.undo(), 0);
        due.is("no row", x.row(0, 0, 0), -1);
        due.is("none", x.undo(), -1);
        due.is("the rows stay made", x.about(4), 5);
        due.is("the patterns stay", x.about(1), 3);
    }

    private static void fortyChanges() {
        TileOffice x = office();
        x.insert(0, 0, 50, 0);
        for (int j = 0; j < 45; j++) {
            x.put(0, 0, j, 0, 0);
            due.is("changes", x.about(7), Math.min(40, j + 2));
        }
        for (int n = 39; n >= 0; n--) {
            due.is("undo", x.undo(), n);
        }
        due.is("none is left", x.undo(), -1);
        due.is("five stay", x.count(0, 0), 5);
        x.put(0, 0, 9, 0, 0);
        due.is("one more", x.about(7), 1);
        due.is("undo", x.undo(), 0);
        due.is("five", x.count(0, 0), 5);
    }

    private static void sixThousandRows() {
        TileOffice x = office();
        for (int i = 0; i < 20; i++) {
            x.insert(0, i, 20, 0);
        }
        x.put(0, 19, 19, 0, 0);
        x.region(0, 0, 0, 20, 20);
        for (int n = 0; n < 298; n++) {
            x.paste(0, 0, 0);
        }
        due.is("ROWS MADE", x.about(4), 5981);
        due.is("one too many", x.paste(0, 0, 0), -1);
        due.is("so many are left", x.paste(0, 1, 0), 380);
        due.is("ROWS MADE", x.about(4), 6000);
        due.no("insert", x.insert(0, 0, 0, 0));
        due.no("put", x.put(0, 0, 0, 0, 0));
        due.no("shade", x.shade(0, 19, 19, 1));
        due.is("paste", x.paste(0, 0, 0), -1);
        due.is("paste of nothing", x.paste(0, 30, 0), 0);
        x.rule(1, 1);
        due.is("grow", x.grow(0, 0, 0), -1);
        x.pattern();
        due.is("grow of no row", x.grow(1, 0, 0), 2);
        due.yes("remove goes", x.remove(0, 0));
        due.yes("move goes", x.move(0, 0, 1));
        due.is("copy goes", x.copy(0), 3);
        due.is("undo goes", x.undo(), 39);
    }

    // Just one row is left each time: the calls that need one go, and once.
    private static void theLastRows() {
        for (int call = 0; call < 3; call++) {
            TileOffice x = office();
            for (int i = 0; i < 20; i++) {
                x.insert(0, i, 1, 0);
            }
            x.put(0, 0, 0, 0, 0);
            x.region(0, 0, 0, 20, 1);
            for (int n = 0; n < 298; n++) {
                x.paste(0, 0, 0);
            }
            due.is("18 of 19", x.paste(0, 2, 0), 18);
            due.is("ROWS MADE", x.about(4), 5999);
            for (int n = 0; n < 2; n++) {
                boolean went = call == 0 ? x.insert(0, 0, 3, 0) : call == 1 ? x.put(0, 0, 0, -1, 0) : x.shade(0, 2, 0, 5);
                due.is("the last row, call " + call, went, n == 0);
            }
            due.is("ROWS MADE", x.about(4), 6000);
        }
    }

    private static void sixtyRowsCopiedAndUndone() {
        TileOffice x = office();
        for (int i = 0; i < 60; i++) {
            x.insert(0, i, 1, 0);
        }
        due.is("copy", x.copy(0), 1);
        due.yes("the last row, too", x.shares(0, 59, 1, 59));
        for (int n = 0; n < 85; n++) {
            x.put(0, n % 60, 0, 0, 0);
        }
        for (int n = 39; n >= 0; n--) {
            due.is("undo", x.undo(), n);
        }
        for (int i = 0; i < 60; i++) {
            due.is("as ahead of the latest 40", x.at(0, i, 0, 0), i < 45 ? 0 : -1);
            due.is("shared", x.shares(0, i, 1, i), i >= 45);
        }
    }
}
