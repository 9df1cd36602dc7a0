/** Promises 1 to 5: a new object, kind, named, edge, then. */
public final class KindsTest {
    private static final Due due = new Due();

    public static void main(String[] args) {
        newObject();
        refusedKinds();
        names();
        fortyKinds();
        edgesAndMoves();
        chains();
        due.end("KindsTest");
    }

    private static void newObject() {
        TileOffice x = new TileOffice();
        for (int what = 0; what <= 8; what++) {
            due.is("about(" + what + ") of a new one", x.about(what), 0);
        }
        due.is("edge without a kind", x.edge(0, 0, 0), -1);
        due.is("paste without a pattern", x.paste(0, 0, 0), -1);
        due.is("foretold without a rule", x.foretold(0, 0, 0, 0), -1);
        due.is("fill without a floor", x.fill(0), -1);
        due.no("turn without a region", x.turn(0));
    }

    private static void refusedKinds() {
        TileOffice x = new TileOffice();
        due.is("edges -1", x.kind(-1, 4, false, 0, 97), -1);
        due.is("edges 65536", x.kind(65536, 4, false, 0, 97), -1);
        due.is("edges least", x.kind(Integer.MIN_VALUE, 4, false, 0, 97), -1);
        int[] wrongTurns = {-1, 0, 3, 5, 8, Integer.MAX_VALUE, Integer.MIN_VALUE};
        for (int turns : wrongTurns) {
            due.is("turns " + turns, x.kind(0, turns, false, 0, 97), -1);
        }
        due.is("turns 1 with edges apart", x.kind(Due.edges(3, 3, 3, 4), 1, true, 0, 97), -1);
        due.is("turns 1 with opposite ones", x.kind(Due.edges(3, 4, 3, 4), 1, true, 0, 97), -1);
        due.is("turns 2 above, below apart", x.kind(Due.edges(1, 2, 3, 2), 2, true, 0, 97), -1);
        due.is("turns 2 right, left apart", x.kind(Due.edges(1, 2, 1, 3), 2, true, 0, 97), -1);
        due.is("cost -1", x.kind(0, 1, false, -1, 97), -1);
        due.is("cost 1001", x.kind(0, 1, false, 1001, 97), -1);
        due.is("none came", x.about(0), 0);
        due.is("all edges 15", x.kind(65535, 1, false, 1000, 97), 0);
        due.is("turns 2", x.kind(Due.edges(1, 2, 1, 2), 2, false, 0, 98), 1);
        due.is("turns 4 with like edges", x.kind(0, 4, false, 0, 99), 2);
    }

    private static void names() {
        TileOffice x = new TileOffice();
        long[] wrong = {0, 96, 123, 'A', ' ', 255, Due.name("ab") << 8 | '{', -1, Long.MIN_VALUE, Long.MAX_VALUE};
        for (long name : wrong) {
            due.is("kind named " + name, x.kind(0, 1, false, 0, name), -1);
            due.is("named " + name, x.named(name), -1);
        }
        due.is("eight letters", x.kind(0, 1, false, 0, Due.name("zzzzzzzz")), 0);
        due.is("a", x.kind(0, 1, false, 0, Due.name("a")), 1);
        due.is("ab", x.kind(0, 1, false, 0, Due.name("ab")), 2);
        due.is("ba", x.kind(0, 1, false, 0, Due.name("ba")), 3);
        due.is("ab again", x.kind(0, 1, false, 0, Due.name("ab")), -1);
        due.is("ab with 0s behind", x.kind(0, 1, false, 0, Due.name("ab") << 48), -1);
        due.is("ab with a 0 between", x.kind(0, 1, false, 0, (long) 'a' << 40 | 'b'), -1);
        due.is("named z..", x.named(Due.name("zzzzzzzz")), 0);
        due.is("named ab", x.named(Due.name("ab")), 2);
        due.is("named ab, 0s left out", x.named((long) 'a' << 56 | 'b' << 8), 2);
        due.is("named b", x.named(Due.name("b")), -1);
        due.is("four", x.about(0), 4);
    }

    private static void fortyKinds() {
        TileOffice x = new TileOffice();
        for (int n = 0; n < 40; n++) {
            due.is("kind " + n, x.kind(0, 1, false, 0, Due.name("k" + (char) ('a' + n % 26) + (char) ('a' + n / 26))), n);
        }
        due.is("the 41st", x.kind(0, 1, false, 0, Due.name("more")), -1);
        due.is("its name", x.named(Due.name("more")), -1);
        due.is("forty", x.about(0), 40);
        due.is("the last one", x.named(Due.name("knb")), 39);
    }

    private static void edgesAndMoves() {
        TileOffice x = new TileOffice();
        x.kind(Due.edges(1, 2, 3, 4), 4, true, 0, Due.name("full"));
        x.kind(Due.edges(1, 2, 3, 4), 4, false, 0, Due.name("flat"));
        x.kind(Due.edges(5, 6, 5, 6), 2, true, 0, Due.name("two"));
        x.kind(Due.edges(7, 7, 7, 7), 1, true, 0, Due.name("one"));
        // Mirrored first, then turned: 1 4 3 2 from above on, then a quarter.
        int[][] lying = {{1, 2, 3, 4}, {4, 1, 2, 3}, {3, 4, 1, 2}, {2, 3, 4, 1},
            {1, 4, 3, 2}, {2, 1, 4, 3}, {3, 2, 1, 4}, {4, 3, 2, 1}};
        for (int m = 0; m < 8; m++) {
            for (int e = 0; e < 4; e++) {
                due.is("edge(0, " + m + ", " + e + ")", x.edge(0, m, e), lying[m][e]);
                due.is("edge(1, " + m + ", " + e + ")", x.edge(1, m, e), lying[m % 4][e]);
                due.is("edge(2, " + m + ", " + e + ")", x.edge(2, m, e), (e + m) % 2 == 0 ? 5 : 6);
                due.is("edge(3, " + m + ", " + e + ")", x.edge(3, m, e), 7);
            }
            due.is("edge(0, " + m + ", 4)", x.edge(0, m, 4), m);
            due.is("edge(1, " + m + ", 4)", x.edge(1, m, 4), m % 4);
            due.is("edge(2, " + m + ", 4)", x.edge(2, m, 4), m % 2 + (m >= 4 ? 4 : 0));
            due.is("edge(3, " + m + ", 4)", x.edge(3, m, 4), m >= 4 ? 4 : 0);
        }
        int[] wrong = {-1, 5, Integer.MIN_VALUE, Integer.MAX_VALUE};
        for (int w : wrong) {
            due.is("edge(0, 0, " + w + ")", x.edge(0, 0, w), -1);
            due.is("edge(" + w + ", 0, 0)", x.edge(w, 0, 0), -1);
            due.is("edge(0, " + (w == 5 ? 8 : w) + ", 0)", x.edge(0, w == 5 ? 8 : w, 0), -1);
        }
        due.is("edge of a kind that is not", x.edge(4, 0, 0), -1);
    }

    // The edges of a tile that turns and mirrors freely tell what a MOVE does, so they tell what two do.
    private static void chains() {
        TileOffice x = new TileOffice();
        x.kind(Due.edges(0, 1, 2, 3), 4, true, 0, 97);
        for (int a = 0; a < 8; a++) {
            for (int b = 0; b < 8; b++) {
                int c = x.then(a, b);
                due.yes("then(" + a + ", " + b + ") is a MOVE", c >= 0 && c < 8);
                for (int e = 0; e < 4; e++) {
                    // What b brings to e, it brings from the place that a kind with colours 0 to 3 tells.
                    due.is("then(" + a + ", " + b + ") at " + e, x.edge(0, c, e), x.edge(0, a, x.edge(0, b, e)));
                }
            }
        }
        due.is("then(8, 0)", x.then(8, 0), -1);
        due.is("then(0, 8)", x.then(0, 8), -1);
        due.is("then(-1, 0)", x.then(-1, 0), -1);
        due.is("then(0, -1)", x.then(0, -1), -1);
    }
}
