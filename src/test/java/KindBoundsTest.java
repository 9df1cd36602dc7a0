/** The sentences on MOVES, EDGES and KINDS (==== 2., promises 1 to 5) that name a boundary, each with a test of its own. */
public final class KindBoundsTest {
    private static final String FOUR = "kind(0x3210, 4, true, 7, 'four')";
    private static final String FLAT = "kind(0x3210, 4, false, 7, 'flat')";
    private static final String TWO = "kind(0x5454, 2, true, 7, 'two')";
    private static final String ONE = "kind(0x6666, 1, true, 7, 'one')";

    public static void main(String[] args) {
        nothingInANewObject();
        refusedByANewObject();
        movesAreEight();
        mirroredFromFourOn();
        chainsGoRound();
        chainsCountBack();
        quartersGoRound();
        mirroredEdges();
        sidesAreFour();
        fortyKinds();
        coloursAreSixteen();
        otherBitsAreNone();
        turnsAreThree();
        turnsOneWantsAllAlike();
        turnsTwoWantsOppositeAlike();
        costs();
        lettersOfNames();
        lengthsOfNames();
        zerosAreLeftOut();
        noNameTwice();
        namedOrNone();
        liesModuloTurns();
        liesNotMirrored();
        kindsThatAre();
        Run.end("KindBoundsTest");
    }

    private static void nothingInANewObject() {
        Run run = new Run("No kinds, patterns, rules, floors, REGION");
        for (int what = 0; what <= 8; what++) {
            run.due("about(" + what + ")", 0);
        }
        run.refuses("about(-1)", "about(9)");
    }

    private static void refusedByANewObject() {
        new Run("or there is none such (a new object)").refuses("named('a')", "edge(0, 0, 0)", "insert(0, 0, 1, 0)",
            "remove(0, 0)", "move(0, 0, 0)", "put(0, 0, 0, -1, 0)", "shade(0, 0, 0, 0)", "at(0, 0, 0, 0)", "row(0, 0, 0)",
            "shares(0, 0, 0, 0)", "copy(0)", "region(0, 0, 0, 1, 1)", "turn(0)", "paste(0, 0, 0)", "becomes(0, 0, 0, 0, -1, 0)",
            "grow(0, 0, 0)", "foretold(0, 0, 0, 0)", "count(0, -1)", "fits(0)", "period(0, 0)", "kept(0)", "congruent(0, 0)",
            "find(0, 0, 0)", "place(0, 0, 0, -1, 0)", "stock(0, 0, 0)", "fill(0)", "fills(0, 1)", "cheapest(0)", "forced(0)",
            "shown(0, 0, 0)", "undo()");
    }

    private static void movesAreEight() {
        Run run = new Run("A MOVE is 0 .. 7").go(FOUR);
        run.due("then(0, 0)", 0).due("then(7, 0)", 7).due("then(0, 7)", 7).due("then(7, 7)", 0);
        run.refuses("then(-1, 0)", "then(8, 0)", "then(0, -1)", "then(0, 8)", "then(MIN, 0)", "then(MAX, 0)", "then(0, MIN)",
            "then(0, MAX)");
        run.due("edge(0, 0, 4)", 0).due("edge(0, 7, 4)", 7);
        run.refuses("edge(0, -1, 4)", "edge(0, 8, 4)", "edge(0, MIN, 4)", "edge(0, MAX, 4)");
    }

    private static void mirroredFromFourOn() {
        Run run = new Run("turns t = m % 4, mirrored if m is 4 or more").go(FOUR);
        run.due("edge(0, 3, 0)", 1).due("edge(0, 3, 3)", 0);
        run.due("edge(0, 4, 0)", 0).due("edge(0, 4, 1)", 3).due("edge(0, 4, 3)", 1);
        run.due("edge(0, 7, 0)", 3).due("edge(0, 7, 3)", 0);
    }

    private static void chainsGoRound() {
        Run run = new Run("its turns are b's and a's (modulo 4)");
        run.due("then(3, 0)", 3).due("then(3, 1)", 0).due("then(1, 3)", 0).due("then(3, 3)", 2);
        run.due("then(7, 0)", 7).due("then(7, 1)", 4).due("then(5, 3)", 4).due("then(7, 3)", 6);
    }

    private static void chainsCountBack() {
        Run run = new Run("a's counted back if b is mirrored; mirrored if just one of them is");
        run.due("then(0, 4)", 4).due("then(1, 4)", 7).due("then(3, 4)", 5).due("then(1, 5)", 4).due("then(3, 5)", 6)
            .due("then(2, 5)", 7);
        run.due("then(4, 4)", 0).due("then(5, 4)", 3).due("then(7, 4)", 1).due("then(5, 5)", 0).due("then(4, 7)", 3)
            .due("then(7, 5)", 2);
    }

    private static void quartersGoRound() {
        Run run = new Run("a quarter: 0 to 1, 1 to 2, 2 to 3, 3 to 0").go(FOUR);
        run.due("edge(0, 1, 1)", 0).due("edge(0, 1, 2)", 1).due("edge(0, 1, 3)", 2).due("edge(0, 1, 0)", 3);
    }

    private static void mirroredEdges() {
        Run run = new Run("mirrored: 1 and 3 are exchanged").go(FOUR);
        run.due("edge(0, 4, 0)", 0).due("edge(0, 4, 1)", 3).due("edge(0, 4, 2)", 2).due("edge(0, 4, 3)", 1);
        // Mirrored first: the other way about 0 would lie at the left, and 2 at the right.
        run.due("edge(0, 5, 0)", 1).due("edge(0, 5, 1)", 0).due("edge(0, 5, 2)", 3).due("edge(0, 5, 3)", 2);
    }

    private static void sidesAreFour() {
        Run run = new Run("the colour of edge e (0 .. 3), 4: that MOVE. NONE: refused").go(FOUR);
        run.due("edge(0, 2, 0)", 2).due("edge(0, 2, 3)", 1).due("edge(0, 2, 4)", 2);
        run.refuses("edge(0, 0, -1)", "edge(0, 0, 5)", "edge(0, 0, MIN)", "edge(0, 0, MAX)");
    }

    private static void fortyKinds() {
        Run run = new Run("KINDS are numbered from 0 on, 40 at most");
        for (int k = 0; k < 40; k++) {
            run.due("kind(" + k + ", 4, false, 0, '" + name(k) + "')", k);
        }
        run.refuses("kind(0, 1, false, 0, 'more')").due("named('more')", -1).due("about(0)", 40);
        run.due("edge(39, 0, 0)", 7).due("edge(39, 0, 1)", 2).refuses("edge(40, 0, 0)").due("named('" + name(39) + "')", 39);
    }

    private static String name(int k) {
        return "k" + (char) ('a' + k / 8) + (char) ('a' + k % 8);
    }

    private static void coloursAreSixteen() {
        Run run = new Run("a colour (0 .. 15) at each edge, from above on by four bits each, the first one lowest");
        for (int e = 0; e < 4; e++) {
            run.due("kind(" + (15 << 4 * e) + ", 4, false, 0, '" + name(e) + "')", e);
            for (int side = 0; side < 4; side++) {
                run.due("edge(" + e + ", 0, " + side + ")", side == e ? 15 : 0);
            }
        }
        run.due("kind(0, 4, false, 0, 'least')", 4).due("kind(0xFFFF, 4, false, 0, 'most')", 5);
        run.due("edge(4, 0, 3)", 0).due("edge(5, 0, 3)", 15);
    }

    private static void otherBitsAreNone() {
        Run run = new Run("16 bits; others must be 0").go("kind(0xFFFF, 4, false, 0, 'a')");
        for (int bit = 16; bit < 32; bit++) {
            run.refuses("kind(" + (1 << bit) + ", 4, false, 0, 'b')");
        }
        run.refuses("kind(-1, 1, false, 0, 'b')", "kind(-1, 4, false, 0, 'b')", "kind(65536, 4, false, 0, 'b')",
            "kind(MAX, 4, false, 0, 'b')");
    }

    private static void turnsAreThree() {
        Run run = new Run("TURNS 1, 2 or 4");
        run.due("kind(0, 1, false, 0, 'a')", 0).due("kind(0, 2, false, 0, 'b')", 1).due("kind(0, 4, false, 0, 'c')", 2);
        run.refuses("kind(0, 0, false, 0, 'd')", "kind(0, 3, false, 0, 'd')", "kind(0, 5, false, 0, 'd')",
            "kind(0, 8, false, 0, 'd')", "kind(0, -1, false, 0, 'd')", "kind(0, -4, false, 0, 'd')",
            "kind(0, MIN, false, 0, 'd')", "kind(0, MAX, false, 0, 'd')");
    }

    private static void turnsOneWantsAllAlike() {
        Run run = new Run("with 1 all edges are alike").go("kind(0x7777, 1, false, 0, 'a')", "kind(0x0000, 1, true, 0, 'b')");
        run.refuses("kind(0x7776, 1, false, 0, 'c')", "kind(0x7767, 1, false, 0, 'c')", "kind(0x7677, 1, false, 0, 'c')",
            "kind(0x6777, 1, false, 0, 'c')", "kind(0x6767, 1, false, 0, 'c')", "kind(0x7676, 1, true, 0, 'c')",
            "kind(0x6677, 1, false, 0, 'c')");
    }

    private static void turnsTwoWantsOppositeAlike() {
        Run run = new Run("with 2 those that are opposite").go("kind(0x7676, 2, false, 0, 'a')", "kind(0x7777, 2, true, 0, 'b')");
        run.refuses("kind(0x7677, 2, false, 0, 'c')", "kind(0x7776, 2, false, 0, 'c')", "kind(0x6777, 2, false, 0, 'c')",
            "kind(0x7767, 2, false, 0, 'c')", "kind(0x6677, 2, true, 0, 'c')", "kind(0x7667, 2, false, 0, 'c')");
        run.go("kind(0x7677, 4, false, 0, 'c')", "kind(0x6677, 4, false, 0, 'd')");
    }

    private static void costs() {
        Run run = new Run("a COST (0 .. 1000)").go("kind(0, 1, false, 0, 'a')", "kind(0x1111, 1, false, 1000, 'b')",
            "floor(1, 1)");
        run.refuses("kind(0, 1, false, -1, 'c')", "kind(0, 1, false, 1001, 'c')", "kind(0, 1, false, MIN, 'c')",
            "kind(0, 1, false, MAX, 'c')");
        run.go("stock(0, 1, 1)").due("cheapest(0)", 1000).go("stock(0, 0, 1)").due("cheapest(0)", 0);
    }

    private static void lettersOfNames() {
        Run run = new Run("a NAME (letters a .. z)").go("kind(0, 1, false, 0, 'a')", "kind(0, 1, false, 0, 'z')");
        for (int place = 0; place < 8; place++) {
            long others = Due.name("mmmmmmmm") & ~(255L << 8 * place);
            for (long wrong : new long[] {'a' - 1, 'z' + 1, 'A', 1, 127, 128, 255}) {
                long name = others | wrong << 8 * place;
                run.refuses("kind(0, 1, false, 0, " + name + ")").due("named(" + name + ")", -1);
            }
        }
        run.go("kind(0, 1, false, 0, 'mmmmmmmm')");
    }

    private static void lengthsOfNames() {
        Run run = new Run("a NAME (1 to 8 letters)");
        run.refuses("kind(0, 1, false, 0, 0)").due("named(0)", -1);
        for (int n = 1; n <= 8; n++) {
            run.due("kind(0, 1, false, 0, '" + "q".repeat(n) + "')", n - 1);
        }
        for (int n = 1; n <= 8; n++) {
            run.due("named('" + "q".repeat(n) + "')", n - 1);
        }
    }

    private static void zerosAreLeftOut() {
        Run run = new Run("by the bytes of a long, the highest first, 0s left out");
        run.due("kind(0, 1, false, 0, " + (Due.name("ab") << 48) + ")", 0).due("kind(0, 1, false, 0, 'ba')", 1);
        run.due("named('ab')", 0).due("named(" + (Due.name("ab") << 24) + ")", 0)
            .due("named(" + ((long) 'a' << 56 | 'b') + ")", 0);
        run.due("named(" + (Due.name("ba") << 8) + ")", 1);
        run.refuses("kind(0, 1, false, 0, 'ab')", "kind(0, 1, false, 0, " + ((long) 'a' << 40 | 'b' << 8) + ")");
        run.due("kind(0, 1, false, 0, " + (Due.name("zzzzzzzz") >>> 8 << 8) + ")", 2).due("named('zzzzzzz')", 2)
            .due("named('zzzzzzzz')", -1);
    }

    private static void noNameTwice() {
        Run run = new Run("none twice").go("kind(0x1111, 1, false, 3, 'a')", "kind(0, 1, false, 0, 'abcdefgh')");
        run.refuses("kind(0x1111, 1, false, 3, 'a')", "kind(0x2222, 4, true, 9, 'a')", "kind(0, 1, false, 0, 'abcdefgh')");
        run.go("kind(0x1111, 1, false, 3, 'aa')", "kind(0, 1, false, 0, 'abcdefgg')", "kind(0, 1, false, 0, 'bbcdefgh')");
    }

    private static void namedOrNone() {
        Run run = new Run("The kind with this name; NONE").go("kind(0, 1, false, 0, 'abc')", "kind(0, 1, false, 0, 'b')");
        run.due("named('abc')", 0).due("named('b')", 1);
        run.refuses("named('a')", "named('ab')", "named('abcd')", "named('c')", "named('cba')", "named('B')", "named(0)",
            "named(-1)");
    }

    private static void liesModuloTurns() {
        Run run = new Run("as it LIES: its turns modulo TURNS").go(FOUR, TWO, ONE);
        for (int m = 0; m < 8; m++) {
            run.due("edge(0, " + m + ", 4)", m);
            run.due("edge(1, " + m + ", 4)", m % 4 % 2 + m / 4 * 4);
            run.due("edge(2, " + m + ", 4)", m / 4 * 4);
        }
        run.due("edge(1, 2, 0)", 4).due("edge(1, 3, 0)", 5).due("edge(1, 3, 1)", 4);
    }

    private static void liesNotMirrored() {
        Run run = new Run("not mirrored if it does not MIRROR")
            .go(FLAT, "kind(0x5454, 2, false, 7, 'two')", "kind(0, 1, false, 7, 'one')");
        for (int m = 0; m < 8; m++) {
            run.due("edge(0, " + m + ", 4)", m % 4).due("edge(1, " + m + ", 4)", m % 2).due("edge(2, " + m + ", 4)", 0);
            run.due("edge(0, " + m + ", 0)", (4 - m % 4) % 4);
        }
    }

    private static void kindsThatAre() {
        Run run = new Run("Of a kind (there is none such)").go(FOUR, FLAT);
        run.due("edge(1, 0, 1)", 1).refuses("edge(-1, 0, 0)", "edge(2, 0, 0)", "edge(40, 0, 0)", "edge(MIN, 0, 0)",
            "edge(MAX, 0, 0)");
    }
}
