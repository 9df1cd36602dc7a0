/** The sentences on UNDO (==== 7., promise 37), about (38) and an object's life that name a boundary, each with its own test. */
public final class OfficeBoundsTest {
    private static final String[] BASE = {"kind(0x3210, 4, true, 1, 'a')", "pattern()"};

    public static void main(String[] args) {
        nothingToTakeBack();
        eachChange();
        fortyChanges();
        fortyOneChanges();
        changesGoRound();
        veryRowsAgain();
        notTakenBack();
        onlyThatPattern();
        refusedOnesAreNoChange();
        nothingPastedIsNoChange();
        againAfterUndo();
        whatOfAbout();
        greatestOfAbout();
        theLastCall();
        Run.end("OfficeBoundsTest");
    }

    private static Run run(String sentence) {
        return new Run(sentence).go(BASE);
    }

    private static void nothingToTakeBack() {
        Run run = run("NONE: there is none").refuses("undo()").go("insert(0, 0, 1, 0)").due("undo()", 0).refuses("undo()")
            .due("about(7)", 0);
    }

    private static void eachChange() {
        Run run = run("UNDO takes back the latest change of a pattern (put, shade, insert, remove, move, paste)");
        run.go("insert(0, 0, 2, 0)", "insert(0, 1, 3, 0)", "put(0, 0, 0, 0, 3)", "shade(0, 0, 0, 9)", "move(0, 0, 1)",
            "region(0, 1, 0, 1, 1)", "paste(0, 0, 2)", "remove(0, 0)");
        run.due("about(7)", 7).due("row(0, 0, 0)", 2).due("undo()", 6).due("row(0, 0, 0)", 3).due("at(0, 0, 2, 2)", 9)
            .due("undo()", 5).due("at(0, 0, 2, 0)", -1);
        run.due("undo()", 4).due("row(0, 0, 0)", 2).due("at(0, 0, 0, 2)", 9).due("undo()", 3).due("at(0, 0, 0, 2)", 0)
            .due("at(0, 0, 0, 1)", 3);
        run.due("undo()", 2).due("at(0, 0, 0, 0)", -1).due("undo()", 1).due("row(0, 1, 0)", -1).due("row(0, 0, 0)", 2)
            .due("undo()", 0).due("row(0, 0, 0)", -1).due("undo()", -1);
    }

    /** So many changes, of which the n-th puts a tile at place n - 1; then all are taken back that can be. */
    private static void changes(String sentence, int many) {
        Run run = run(sentence).go("insert(0, 0, 60, 0)");
        for (int n = 1; n < many; n++) {
            run.go("put(0, 0, " + (n - 1) % 60 + ", 0, " + n % 8 + ")");
        }
        run.due("about(7)", Math.min(40, many));
        for (int left = Math.min(40, many) - 1; left >= 0; left--) {
            run.due("undo()", left);
        }
        run.refuses("undo()").due("row(0, 0, 0)", many <= 40 ? -1 : 60);
        for (int j = 0; j < 60 && many > 40; j += 3) {
            run.due("at(0, 0, " + j + ", 0)", j < many - 41 ? 0 : -1);
        }
    }

    private static void fortyChanges() {
        changes("40 of them (all of them)", 39);
        changes("40 of them (all of them)", 40);
    }

    private static void fortyOneChanges() {
        changes("40 of them (the first is kept)", 41);
        changes("40 of them (the first two are kept)", 42);
    }

    private static void changesGoRound() {
        changes("40 of them (twice)", 80);
        changes("40 of them (twice, and one)", 81);
        changes("40 of them (thrice)", 100);
    }

    private static void veryRowsAgain() {
        Run run = run("that pattern has the very ROWS again that it had")
            .go("insert(0, 0, 1, 0)", "insert(0, 1, 1, 0)", "copy(0)", "put(0, 0, 0, 0, 0)", "move(0, 0, 1)", "remove(0, 0)");
        run.due("shares(0, 0, 1, 0)", 0).due("undo()", 4).due("undo()", 3).due("shares(0, 1, 1, 1)", 1)
            .due("shares(0, 0, 1, 0)", 0).due("undo()", 2).due("shares(0, 0, 1, 0)", 1);
        run.due("row(0, 0, 2)", 2).due("about(4)", 3);
        Run great = run("that pattern has the very ROWS again (60 of them)");
        for (int i = 0; i < 60; i++) {
            great.go("insert(0, " + i + ", 1, 0)");
        }
        great.go("copy(0)", "put(0, 59, 0, 0, 0)", "move(0, 59, 0)", "remove(0, 30)").due("shares(0, 59, 1, 59)", 0)
            .due("undo()", 39).due("row(0, 59, 0)", 1).due("undo()", 38).due("undo()", 37);
        great.due("shares(0, 59, 1, 59)", 1).due("shares(0, 0, 1, 0)", 1).due("shares(0, 30, 1, 30)", 1);
    }

    private static void notTakenBack() {
        Run run = run("copy(), pattern(), grow() are not taken back")
            .go("rule(1, 1)", "insert(0, 0, 1, 0)", "copy(0)", "pattern()", "grow(0, 0, 0)", "floor(1, 1)",
            "kind(0, 1, false, 0, 'b')");
        run.go("region(0, 0, 0, 1, 1)", "turn(1)", "becomes(0, 0, 0, 0, 0, 0)", "place(0, 0, 0, 1, 0)", "stock(0, 1, 5)")
            .due("about(7)", 1).due("undo()", 0);
        int[] want = {2, 4, 1, 1, 2, 1, 1, 0, 0};
        for (int what = 0; what <= 8; what++) {
            run.due("about(" + what + ")", want[what]);
        }
        run.due("row(0, 0, 0)", -1).due("row(1, 0, 0)", 1).due("row(3, 0, 0)", 1).due("shown(0, 0, 0)", 8)
            .due("foretold(0, 0, 1, 0)", 1);
    }

    private static void onlyThatPattern() {
        Run run = run("the latest change of a pattern (the others are as they are)")
            .go("insert(0, 0, 1, 0)", "copy(0)", "put(1, 0, 0, 0, 1)", "put(0, 0, 0, 0, 2)");
        run.due("undo()", 2).due("at(0, 0, 0, 0)", -1).due("at(1, 0, 0, 1)", 1).due("undo()", 1).due("shares(0, 0, 1, 0)", 1)
            .due("undo()", 0).due("row(0, 0, 0)", -1).due("row(1, 0, 0)", 1);
    }

    private static void refusedOnesAreNoChange() {
        Run run = run("A call is refused; it changes nothing then (no change to take back)")
            .go("insert(0, 0, 2, 0)", "put(0, 0, 0, 0, 1)", "region(0, 0, 0, 1, 1)");
        run.refuses("put(0, 0, 2, 0, 0)", "shade(0, 0, 1, 3)", "insert(0, 2, 1, 0)", "remove(0, 1)", "move(0, 0, 1)",
            "paste(1, 0, 0)", "paste(-1, 0, 0)");
        run.due("about(7)", 2).due("about(4)", 2);
    }

    private static void nothingPastedIsNoChange() {
        Run run = run("a paste of which nothing came is no change").go("insert(0, 0, 2, 0)", "region(0, 0, 0, 1, 1)")
            .tells(0, "paste(0, 1, 0)", "paste(0, 0, 2)", "paste(0, -1, -1)");
        run.due("paste(0, 1, 0)", 0).due("about(7)", 1).due("paste(0, 0, 0)", 1).due("about(7)", 2).due("undo()", 1);
    }

    private static void againAfterUndo() {
        Run run = run("The latest change is taken back: how many can be yet")
            .go("insert(0, 0, 9, 0)", "put(0, 0, 0, 0, 0)", "put(0, 0, 1, 0, 0)").due("undo()", 2).go("put(0, 0, 2, 0, 0)");
        run.due("about(7)", 3).due("undo()", 2).due("at(0, 0, 1, 0)", -1).due("at(0, 0, 2, 0)", -1).due("at(0, 0, 0, 0)", 0)
            .due("undo()", 1).due("undo()", 0).due("undo()", -1);
    }

    private static void whatOfAbout() {
        Run run = run("NONE for another what").refuses("about(-1)", "about(9)", "about(MIN)", "about(MAX)").due("about(0)", 1)
            .due("about(8)", 0);
    }

    private static void greatestOfAbout() {
        Run run = new Run("What 0: kinds, 1: patterns, 2: rules, 3: floors (as many as there may be)");
        for (int k = 0; k < 40; k++) {
            run.go("kind(0, 1, false, 0, 'k" + (char) ('a' + k / 8) + (char) ('a' + k % 8) + "')");
        }
        run.times(16, "pattern()").times(8, "rule(4, 4)").times(6, "floor(8, 8)")
            .refuses("kind(0, 1, false, 0, 'z')", "pattern()", "rule(1, 1)", "floor(1, 1)");
        int[] want = {40, 16, 8, 6};
        for (int what = 0; what < 4; what++) {
            run.due("about(" + what + ")", want[what]);
        }
    }

    private static void theLastCall() {
        Run run = run("An object is used for at most 512 calls").go("insert(0, 0, 60, -30)");
        for (int n = 0; n < 508; n++) {
            run.go("put(0, 0, " + (n % 60 - 30) + ", 0, " + n % 8 + ")");
        }
        run.due("about(4)", 509);
    }
}
