/** Promises 23 to 28: count, fits, period, kept, congruent, find. */
public final class SeenTest {
    private static final Due due = new Due();
    private static final int LEAST = Integer.MIN_VALUE;
    private static final int MOST = Integer.MAX_VALUE;

    public static void main(String[] args) {
        counts();
        fits();
        fitsAcrossOffsets();
        periods();
        periodsOfRows();
        keptBySome();
        keptOnlyIfFull();
        keptWithCellsTurned();
        congruent();
        found();
        foundInUnevenRows();
        foundInOrder();
        foundFarIn();
        greatOnes();
        due.end("SeenTest");
    }

    /** Kind 0: 0 all around; 1: 1 all around; 2: colours 0 1 2 3, turns and mirrors; 3: the same, not mirrored. */
    private static TileOffice office() {
        TileOffice x = new TileOffice();
        x.kind(Due.edges(0, 0, 0, 0), 1, false, 1, 'a');
        x.kind(Due.edges(1, 1, 1, 1), 1, false, 1, 'b');
        x.kind(Due.edges(0, 1, 2, 3), 4, true, 1, 'c');
        x.kind(Due.edges(0, 1, 2, 3), 4, false, 1, 'd');
        return x;
    }

    /** A pattern of kinds as digits, '.' for EMPTY, all in MOVE 0. */
    private static int full(TileOffice x, String... rows) {
        int p = x.pattern();
        for (int i = 0; i < rows.length; i++) {
            x.insert(p, i, rows[i].length(), 0);
            for (int j = 0; j < rows[i].length(); j++) {
                if (rows[i].charAt(j) != '.') {
                    x.put(p, i, j, rows[i].charAt(j) - '0', 0);
                }
            }
        }
        return p;
    }

    private static void counts() {
        TileOffice x = office();
        full(x, "0.1", "", "..00");
        due.is("kind 0", x.count(0, 0), 3);
        due.is("kind 1", x.count(0, 1), 1);
        due.is("kind 2", x.count(0, 2), 0);
        due.is("EMPTY", x.count(0, -1), 3);
        due.is("kind 4", x.count(0, 4), -1);
        due.is("kind -2", x.count(0, -2), -1);
        due.is("pattern 1", x.count(1, 0), -1);
        due.is("pattern -1", x.count(-1, -1), -1);
    }

    private static void fits() {
        TileOffice x = office();
        due.is("no pattern", x.fits(0), -1);
        due.is("pattern -1", x.fits(-1), -1);
        int p = full(x, "00", "00");
        due.is("all alike", x.fits(p), 0);
        due.is("at the right", x.fits(full(x, "01", "0.")), 1);
        due.is("below", x.fits(full(x, "00", "10")), 2);
        due.is("both", x.fits(full(x, "00", "01", "11")), 1 + 2 * 1 + 1);
        due.is("the last but one", x.fits(full(x, "00", "00", "..", "01")), 1 + 2 * 6);
        due.is("EMPTY ones part them", x.fits(full(x, "0.1", "..."  , "1.0")), 0);
        due.is("rows of their own lengths", x.fits(full(x, "0", "000", "1")), 1 + 2 * 1 + 1);
        due.is("without a row", x.fits(x.pattern()), 0);
        x.put(p, 0, 0, 2, 0);
        due.is("1 beside 0", x.fits(p), 1);
        x.put(p, 0, 0, 2, 1);
        due.is("0 beside 0, but 1 above 0", x.fits(p), 2);
        x.put(p, 1, 0, 1, 0);
        due.is("1 above 1 goes, 1 beside 0 not", x.fits(p), 1 + 2 * 2);
        x.put(p, 1, 1, -1, 0);
        due.is("all fit", x.fits(p), 0);
    }

    private static void fitsAcrossOffsets() {
        TileOffice x = office();
        int p = x.pattern();
        x.insert(p, 0, 2, -1);
        x.insert(p, 1, 2, 0);
        x.put(p, 0, -1, 0, 0);
        x.put(p, 0, 0, 0, 0);
        x.put(p, 1, 0, 1, 0);
        due.is("the second above the first", x.fits(p), 1 + 2 * 1 + 1);
        x.put(p, 1, 0, 0, 0);
        x.put(p, 1, 1, 1, 0);
        due.is("the first of the second row", x.fits(p), 1 + 2 * 2);
        x.put(p, 1, 0, -1, 0);
        due.is("all fit", x.fits(p), 0);
    }

    private static void periods() {
        TileOffice x = office();
        int p = full(x, "0120", "1201", "0120", "1201", "0120");
        due.is("of rows", x.period(p, 0), 2);
        due.is("of columns", x.period(p, 1), 3);
        due.is("what 2", x.period(p, 2), -1);
        due.is("what -1", x.period(p, -1), -1);
        due.is("no pattern", x.period(p + 1, 0), -1);
        x.shade(p, 4, 0, 1);
        due.is("a SHADE apart", x.period(p, 0), 5);
        due.is("and by columns", x.period(p, 1), 4);
        int q = x.pattern();
        due.is("no row", x.period(q, 0), 1);
        due.is("no column", x.period(q, 1), 1);
        int e = full(x, "...", "...");
        due.is("EMPTY ones are alike", x.period(e, 0) * 10 + x.period(e, 1), 11);
        x.put(e, 0, 0, 2, 1);
        x.put(e, 1, 0, 2, 2);
        due.is("MOVES apart", x.period(e, 0), 2);
        due.is("EMPTY is not alike a tile", x.period(e, 1), 3);
    }

    private static void periodsOfRows() {
        TileOffice x = office();
        int p = x.pattern();
        x.insert(p, 0, 60, -30);
        x.put(p, 0, -30, 0, 0);
        x.put(p, 0, 29, 1, 0);
        due.is("the longest", x.period(p, 1), 60);
        due.is("one row", x.period(p, 0), 1);
        x.insert(p, 1, 1, 30);
        x.put(p, 1, 30, 0, 0);
        due.is("nothing lies below another", x.period(p, 0), 1);
        int q = x.pattern();
        for (int i = 0; i < 60; i++) {
            x.insert(q, i, 1, i % 2 == 0 ? 0 : 30);
        }
        due.is("all EMPTY", x.period(q, 0), 1);
        x.put(q, 0, 0, 0, 0);
        due.is("the least for which none that differ meet", x.period(q, 0), 1);
        int r = x.pattern();
        for (int i = 0; i < 60; i++) {
            x.insert(r, i, 1, 0);
        }
        x.put(r, 0, 0, 0, 0);
        due.is("the first is another", x.period(r, 0), 60);
        x.put(r, 59, 0, 0, 0);
        due.is("the last is like the first", x.period(r, 0), 59);
    }

    private static void keptBySome() {
        TileOffice x = office();
        due.is("no pattern", x.kept(0), -1);
        due.is("one tile", x.kept(full(x, "0")), 255);
        due.is("a line", x.kept(full(x, "010")), 1 | 1 << 2 | 1 << 4 | 1 << 6);
        due.is("a line from left to right", x.kept(full(x, "01")), 1 | 1 << 6);
        due.is("a square", x.kept(full(x, "010", "1.1", "010")), 255);
        due.is("a wheel", x.kept(full(x, "..0.", "0...", "...0", ".0..")), 1 | 1 << 1 | 1 << 2 | 1 << 3);
        due.is("along one diagonal", x.kept(full(x, "0.", ".1")), 1 | 1 << 7);
        due.is("along the other", x.kept(full(x, ".0", "1.")), 1 | 1 << 5);
        due.is("above and below", x.kept(full(x, "01", "..", "01")), 1 | 1 << 6);
        due.is("none but 0", x.kept(full(x, "01", "..")), 1);
    }

    private static void keptOnlyIfFull() {
        TileOffice x = office();
        due.is("no row", x.kept(x.pattern()), 0);
        due.is("LENGTHS apart", x.kept(full(x, "00", "0")), 0);
        due.is("LENGTH 0", x.kept(full(x, "", "")), 0);
        int p = x.pattern();
        x.insert(p, 0, 1, 1);
        due.is("OFFSET 1", x.kept(p), 0);
        x.insert(p, 0, 1, 0);
        due.is("OFFSETS apart", x.kept(p), 0);
    }

    private static void keptWithCellsTurned() {
        TileOffice x = office();
        int p = full(x, "2");
        due.is("a tile that turns", x.kept(p), 1);
        int q = full(x, "3");
        due.is("a tile that does not mirror", x.kept(q), 1 | 1 << 4);
        int w = full(x, "22", "22");
        x.put(w, 0, 1, 2, 1);
        x.put(w, 1, 1, 2, 2);
        x.put(w, 1, 0, 2, 3);
        due.is("a wheel of tiles", x.kept(w), 1 | 1 << 1 | 1 << 2 | 1 << 3);
        x.shade(w, 0, 0, 1);
        due.is("with one SHADE", x.kept(w), 1);
        int m = full(x, "22");
        x.put(m, 0, 1, 2, 4);
        due.is("mirrored", x.kept(m), 1 | 1 << 4);
    }

    private static void congruent() {
        TileOffice x = office();
        int p = full(x, "0.1", "122");
        for (int m = 0; m < 8; m++) {
            x.region(p, 0, 0, 2, 3);
            x.turn(m);
            int q = m % 2 == 0 ? full(x, "...", "...") : full(x, "..", "..", "..");
            due.is("paste", x.paste(q, 0, 0), 6);
            due.is("by " + m, x.congruent(p, q), m);
            due.is("back", x.congruent(q, p), m < 4 ? (4 - m) % 4 : m);
        }
        int t = full(x, "0.0");
        due.is("the least", x.congruent(t, t), 0);
        int v = full(x, "0", ".", "0");
        due.is("the least turned one", x.congruent(t, v), 1);
        due.is("other tiles", x.congruent(t, full(x, "010")), -1);
        int u = full(x, "0.0", "0");
        due.is("not FULL", x.congruent(t, u), -1);
        due.is("nor that", x.congruent(u, u), -1);
        int longer = full(x, "00", "000");
        int square = full(x, "00", "00");
        due.is("not FULL, though a part is like it", x.congruent(longer, square), -1);
        due.is("nor the other way", x.congruent(square, longer), -1);
        due.is("no pattern", x.congruent(t, u + 1), -1);
        due.is("no pattern", x.congruent(-1, t), -1);
    }

    private static void found() {
        TileOffice x = office();
        int p = full(x, "0120", "2012");
        int q = full(x, "01");
        due.is("the first", x.find(p, q, 0), 0);
        due.is("mirrored and turned by two, it is the same", x.find(p, q, 1), 6);
        due.is("1 above 0", x.find(p, q, 2), 13);
        due.is("mirrored, a quarter", x.find(p, q, 3), 15);
        due.is("in the second row", x.find(p, q, 4), 1010);
        due.is("the sixth", x.find(p, q, 5), 1016);
        due.is("no more", x.find(p, q, 6), -1);
        due.is("k -1", x.find(p, q, -1), -1);
        due.is("k at most", x.find(p, q, MOST), -1);
        due.is("k at least", x.find(p, q, LEAST), -1);
        due.is("no p", x.find(2, q, 0), -1);
        due.is("no q", x.find(p, 2, 0), -1);
        due.is("greater than p", x.find(q, p, 0), -1);
        int r = full(x, "2", "0");
        due.is("2 above 0 at the left", x.find(p, r, 0), -1);
        int s = full(x, "0", "2");
        due.is("0 above 2", x.find(p, s, 0), 0);
        due.is("MOVES of a tile count", x.find(p, s, 1), 30);
        due.is("mirrored the tile is another", x.find(p, s, 2), -1);
        due.is("itself", x.find(p, p, 0), 0);
        int e = full(x, "..", "0");
        due.is("not FULL", x.find(p, e, 0), -1);
        due.is("without rows", x.find(p, x.pattern(), 0), -1);
    }

    private static void foundInUnevenRows() {
        TileOffice x = office();
        int p = x.pattern();
        x.insert(p, 0, 3, -2);
        x.insert(p, 1, 4, -1);
        x.put(p, 0, 0, 1, 0);
        x.put(p, 1, 0, 1, 0);
        x.put(p, 1, 2, 1, 0);
        int q = full(x, "1", "1");
        // (0, 0) is the third place of row 0; the same columns lie at other places in row 1.
        due.is("one above the other", x.find(p, q, 0), 20);
        due.is("by 2", x.find(p, q, 1), 22);
        due.is("by 4", x.find(p, q, 2), 24);
        due.is("by 6", x.find(p, q, 3), 26);
        due.is("no more", x.find(p, q, 4), -1);
        int e = full(x, "..", "..");
        due.is("EMPTY ones in EMPTY ones that are", x.find(p, e, 0), -1);
        int b = full(x, ".1");
        due.is("from the left", x.find(p, b, 0), 10);
        due.is("mirrored twice", x.find(p, b, 1), 16);
        due.is("in row 1", x.find(p, b, 2), 1000);
        int from = full(x, "1.");
        due.is("turned by two first", x.find(p, from, 0), 12);
    }

    private static void foundInOrder() {
        TileOffice x = office();
        int p = full(x, "000", "000");
        int q = full(x, "0");
        for (int k = 0; k < 48; k++) {
            due.is("the " + k, x.find(p, q, k), 1000 * (k / 24) + 10 * (k / 8 % 3) + k % 8);
        }
        due.is("no more", x.find(p, q, 48), -1);
    }

    private static void greatOnes() {
        TileOffice x = office();
        for (int p = 0; p < 2; p++) {
            x.pattern();
            for (int i = 0; i < 60; i++) {
                x.insert(p, i, 60, 0);
            }
        }
        due.is("EMPTY", x.kept(0), 255);
        due.is("the very same", x.find(0, 1, 7), 7);
        x.put(0, 59, 59, 0, 0);
        x.put(1, 59, 0, 0, 0);
        due.is("one corner", x.kept(0), 1 | 1 << 7);
        due.is("a quarter apart", x.congruent(0, 1), 1);
        due.is("three quarters back", x.congruent(1, 0), 3);
        due.is("found turned", x.find(0, 1, 0), 3);
        due.is("found mirrored", x.find(0, 1, 1), 4);
        due.is("no more", x.find(0, 1, 2), -1);
    }

    private static void foundFarIn() {
        TileOffice x = office();
        int p = x.pattern();
        for (int i = 0; i < 60; i++) {
            x.insert(p, i, 60, 30);
        }
        x.put(p, 59, 89, 2, 6);
        int q = full(x, "2");
        due.is("in the last place of all", x.find(p, q, 0), 59 * 1000 + 590 + 6);
        due.is("just there", x.find(p, q, 1), -1);
        due.is("all of it, EMPTY", x.find(p, full(x, "."), 8 * 3599 - 1), 59 * 1000 + 580 + 7);
        due.is("all of it, EMPTY", x.find(p, full(x, "."), 8 * 3599), -1);
    }
}
