/** Promises 1, 37 and 38 over all parts together, and that no number, however far off, brings a call to a throw. */
public final class OfficeTest {
    private static final Due due = new Due();
    private static final int[] FAR = {Integer.MIN_VALUE, Integer.MIN_VALUE + 1, -65536, -61, -31, -3, -2, -1, 0, 1, 2, 3, 4, 5, 7, 8, 16, 20,
        21, 30, 31, 39, 40, 59, 60, 61, 64, 99, 100, 1000, 1001, 65535, 65536, Integer.MAX_VALUE - 1, Integer.MAX_VALUE};

    public static void main(String[] args) {
        about();
        undoGoesOverPatterns();
        objectsAreApart();
        farNumbers(new TileOffice());
        farNumbers(full());
        due.end("OfficeTest");
    }

    private static TileOffice full() {
        TileOffice x = new TileOffice();
        x.kind(Due.edges(0, 1, 2, 3), 4, true, 1, 'a');
        x.kind(Due.edges(0, 0, 0, 0), 1, false, 1, 'b');
        x.pattern();
        x.insert(0, 0, 3, -1);
        x.put(0, 0, 0, 0, 3);
        x.copy(0);
        x.region(0, 0, 0, 1, 2);
        x.rule(2, 2);
        x.becomes(0, 0, 1, 1, 1, 0);
        x.floor(2, 2);
        x.stock(0, 0, 4);
        x.place(0, 1, 1, -2, 0);
        return x;
    }

    private static void about() {
        TileOffice x = full();
        x.fill(0);
        int[] want = {2, 2, 1, 1, 2, 1, 2, 2};
        for (int what = 0; what < want.length; what++) {
            due.is("about(" + what + ")", x.about(what), want[what]);
        }
        due.yes("about(8)", x.about(8) >= 3);
        due.is("about(9)", x.about(9), -1);
        due.is("about(-1)", x.about(-1), -1);
        due.is("about at most", x.about(Integer.MAX_VALUE), -1);
        due.yes("turn", x.turn(1));
        due.is("rows of THE REGION", x.about(5), 2);
        due.is("columns of THE REGION", x.about(6), 1);
        due.is("undo", x.undo(), 1);
        due.is("it leaves THE REGION", x.about(5), 2);
        due.is("and ROWS MADE", x.about(4), 2);
    }

    // The latest change is taken back, of whatever pattern it is.
    private static void undoGoesOverPatterns() {
        TileOffice x = full();
        x.put(1, 0, 1, 1, 0);
        x.insert(0, 0, 5, 5);
        x.paste(1, 0, -1);
        x.grow(0, 0, 1);
        due.is("the paste", x.undo(), 4);
        due.is("EMPTY again", x.at(1, 0, -1, 0), -1);
        due.is("the put of the copy stays", x.at(1, 0, 1, 0), 1);
        due.is("the insert", x.undo(), 3);
        due.is("OFFSET", x.row(0, 0, 1), -1);
        due.is("the put of the copy", x.undo(), 2);
        due.yes("they share again", x.shares(0, 0, 1, 0));
        due.is("what was grown stays", x.row(2, 0, 0), 10);
    }

    private static void objectsAreApart() {
        TileOffice x = full();
        TileOffice y = new TileOffice();
        due.is("no kind in the other", y.about(0), 0);
        due.is("a kind of the same name", y.kind(0, 1, false, 0, 'a'), 0);
        due.is("as it was", x.edge(0, 0, 1), 1);
        due.is("its own", y.edge(0, 0, 1), 0);
    }

    private static void farNumbers(TileOffice x) {
        for (int a : FAR) {
            for (int b : FAR) {
                x.kind(a, b, true, a, (long) a << 32 | b);
                x.kind(b, 4, true, a, a);
                x.named((long) a * b);
                x.edge(a, b, 0);
                x.edge(0, a, b);
                x.then(a, b);
                x.insert(a, b, 1, 1);
                x.insert(0, 0, a, b);
                x.remove(a, b);
                x.move(a, b, a);
                x.move(0, a, b);
                x.put(0, a, b, 0, 0);
                x.put(a, 0, 0, b, 0);
                x.put(0, 0, 0, a, b);
                x.shade(0, a, b, a);
                x.at(a, b, a, b);
                x.at(0, a, b, 0);
                x.row(a, b, 2);
                x.row(0, a, b);
                x.shares(a, b, b, a);
                x.shares(0, a, 1, b);
                x.copy(a);
                x.region(0, a, b, 20, 20);
                x.region(0, 0, 0, a, b);
                x.turn(a);
                x.paste(0, a, b);
                x.paste(a, b, 0);
                x.rule(a, b);
                x.becomes(a, b, 0, 0, 0, 0);
                x.becomes(0, 0, a, b, 0, 0);
                x.becomes(0, 0, 0, 0, a, b);
                x.grow(a, b, 1);
                x.grow(0, a, b);
                x.foretold(a, b, a, b);
                x.foretold(0, a, 60, b);
                x.foretold(0, 0, a, b);
                x.count(a, b);
                x.fits(a);
                x.period(a, b);
                x.kept(a);
                x.congruent(a, b);
                x.find(a, b, 0);
                x.find(0, a, b);
                x.floor(a, b);
                x.place(a, b, 0, 0, 0);
                x.place(0, a, b, 0, 0);
                x.place(0, 0, 1, a, b);
                x.stock(a, b, 1);
                x.stock(0, a, b);
                x.fill(a);
                x.fills(a, b);
                x.cheapest(a);
                x.forced(a);
                x.shown(a, b, a);
                x.shown(0, a, b);
                x.about(a);
            }
            x.undo();
        }
        due.yes("all came back", x.about(0) >= 0);
    }
}
