/** Promises 1 to 7: a new object, ROWS. */
public final class RowsTest {
    public static void main(String[] args) {
        Due.run(RowsTest.class);
    }

    // ---- Promise 1, and what the Terms say of ROWS

    @Says(of = 1, words = "No ROWS")
    static void newObjectHasNoRows(Due due) {
        due.is(Run.anew(), "count(8)", 0);
        for (int r = 0; r <= 5; r++) {
            due.finds(Run.anew(), Due.NOTHING, "tear(" + r + ")");
        }
    }

    @Says(of = 1, words = "TEXTS")
    static void newObjectHasNoTexts(Due due) {
        due.is(Run.anew(), "count(9)", 0);
        for (int t = 0; t <= 3; t++) {
            due.finds(Run.anew(), Due.NOTHING, "fault(" + t + ")");
        }
    }

    @Says(of = 1, words = "MINISTERS")
    static void newObjectHasNoMinisters(Due due) {
        due.is(Run.anew(), "count(0)", 0);
        due.is(Run.anew(), "count(3)", 0);
        due.is(Run.anew(), "count(6)", 0);
        due.is(Run.anew(), "count(7)", 0);
        due.refuses(Run.anew(), Due.BAD, "minister(0, 0)", "nudge(0)");
        due.refuses(Run.anew(), Due.STATE, "bar()", "stop()", "keep(0)");
    }

    @Says(of = 1, words = "CHAIRS")
    static void newObjectHasNoChairs(Due due) {
        due.is(Run.anew(), "count(4)", 0);
        for (int place = 0; place <= 7; place++) {
            due.refuses(Run.anew(), Due.STATE, "take(" + place + ")");
        }
    }

    @Says(of = 0, words = "ROWS 0 .. 5 are rows")
    static void rowsAreThoseOf0To5(Due due) {
        Played x = new Played();
        for (int r = 0; r <= 5; r++) {
            due.is(x, "row(" + r + ", 2)", 2);
            due.is(x, "lay(" + r + ", 1, " + (10 + r) + ")", 1);
        }
        for (int r = 0; r <= 5; r++) {
            due.row("each has its own ints", x, r, 0, 10 + r);
        }
        String[] calls = {"row(%, 1)", "lay(%, 0, 9)", "at(%, 0)", "tear(%)", "copy(%, 0, 0, 0, 1)",
            "copy(0, 0, %, 0, 1)", "mean(%)", "reign(2, 1, %)", "kinds(2, %)", "paces(2, %)", "places(2, %)",
            "tune(%)"};
        for (String call : calls) {
            due.refusesOutside(Run.rich(), Due.BAD, call, 0, 5);
        }
    }

    @Says(of = 0, words = {"of 0 to 40 ints", "or missing (at first)"})
    static void rowsOf0To40Ints(Due due) {
        for (int r = 0; r <= 5; r++) {
            due.is(Run.anew(), "row(" + r + ", 0)", 0);
            due.is(Run.anew(), "row(" + r + ", 40)", 40);
            due.refuses(Run.anew(), Due.BAD, "row(" + r + ", 41)");
            due.finds(Run.anew(), Due.SIZE, "row(" + r + ", -1)");
            due.finds(Run.anew(), Due.NOTHING, "at(" + r + ", 0)");
        }
    }

    @Says(of = 0, words = "of 0 to 40 ints")
    static void rowOf40DifferentInts(Due due) {
        Played x = Run.anew().then("row(3, 40)").made();
        for (int i = 0; i < 40; i++) {
            due.tells(x, "lay(3, " + i + ", " + (i * 97 - 1000) + ")", 1, 0);
        }
        for (int i = 0; i < 40; i++) {
            due.tells(x, "at(3, " + i + ")", 1, i * 97 - 1000);
        }
    }

    // ---- Promise 2: row

    @Says(of = 2, words = "A ROW is there with n ints 0: n")
    static void rowOfSomeInts(Due due) {
        for (int n : new int[] {0, 1, 2, 39, 40}) {
            Played x = new Played();
            due.is(x, "row(4, " + n + ")", n);
            due.is(x, "count(8)", 1);
            due.row("row(4, " + n + ")", x, 4, new int[n]);
        }
    }

    @Says(of = 2, words = "A ROW is there with n ints 0")
    static void rowThatIsThereComesAnew(Due due) {
        Run run = Run.anew().row(1, 7, 8, 9).row(2, 6);
        due.becomes(run, "row(1, 3)", 3, Run.anew().row(1, 0, 0, 0).row(2, 6));
        due.becomes(run, "row(1, 2)", 2, Run.anew().row(1, 0, 0).row(2, 6));
        due.becomes(run, "row(1, 0)", 0, Run.anew().row(1).row(2, 6));
        due.becomes(run, "row(1, 40)", 40, Run.anew().then("row(1, 40)").row(2, 6));
        due.becomes(run.then("row(1, 1)"), "row(1, 3)", 3, Run.anew().row(1, 0, 0, 0).row(2, 6));
        due.becomes(run.then("tear(1)"), "row(1, 3)", 3, Run.anew().row(1, 0, 0, 0).row(2, 6));
    }

    @Says(of = 2, words = "BAD: also n above 40")
    static void rowOfMoreThan40Ints(Due due) {
        due.becomes(Run.anew().row(0, 5), "row(0, 40)", 40, Run.anew().then("row(0, 40)"));
        due.refuses(Run.rich(), Due.BAD, "row(0, 41)", "row(0, 42)", "row(0, HIGH)", "row(3, 41)");
    }

    @Says(of = 2, words = "BAD")
    static void rowThatIsNone(Due due) {
        due.refusesOutside(Run.rich(), Due.BAD, "row(%, 0)", 0, 5);
    }

    @Says(of = 2, words = "SIZE: below 0")
    static void rowOfFewerThanNoInts(Due due) {
        due.becomes(Run.anew().row(0, 5), "row(0, 0)", 0, Run.anew().row(0));
        due.finds(Run.rich(), Due.SIZE, "row(0, -1)", "row(0, LOW)", "row(3, -1)");
    }

    @Says(of = 2, words = {"BAD", "SIZE"})
    static void rowIsBadAheadOfSize(Due due) {
        due.refuses(Run.rich(), Due.BAD, "row(6, -1)", "row(-1, -1)", "row(LOW, LOW)", "row(HIGH, -1)");
    }

    // ---- Promise 3: lay

    @Says(of = 3, words = "Place i of a ROW is v: what it was, told by asked(): 1")
    static void layAtTheFirstAndTheLastPlace(Due due) {
        Played x = Run.anew().row(0, 5, 6, 7).made();
        due.tells(x, "lay(0, 0, 8)", 1, 5);
        due.row("lay(0, 0, 8)", x, 0, 8, 6, 7);
        due.tells(x, "lay(0, 2, 9)", 1, 7);
        due.row("lay(0, 2, 9)", x, 0, 8, 6, 9);
        due.tells(x, "lay(0, 2, 9)", 1, 9);
        x = Run.anew().then("row(5, 40)").made();
        due.tells(x, "lay(5, 39, 4)", 1, 0);
        due.tells(x, "lay(5, 39, 3)", 1, 4);
    }

    @Says(of = 3, words = "Place i of a ROW is v: what it was")
    static void layTheLeastAndTheGreatestInt(Due due) {
        Played x = Run.anew().then("row(0, 1)").made();
        due.tells(x, "lay(0, 0, LOW)", 1, 0);
        due.tells(x, "lay(0, 0, HIGH)", 1, Due.LOW);
        due.tells(x, "lay(0, 0, -1)", 1, Due.HIGH);
        due.tells(x, "lay(0, 0, 0)", 1, -1);
    }

    @Says(of = 3, words = "BAD")
    static void layInARowThatIsNone(Due due) {
        due.refusesOutside(Run.rich(), Due.BAD, "lay(%, 0, 9)", 0, 5);
        due.refuses(Run.rich(), Due.BAD, "lay(6, -1, 9)", "lay(-1, 40, 9)");
    }

    @Says(of = 3, words = "NOTHING")
    static void layInARowThatIsMissing(Due due) {
        due.finds(Run.rich(), Due.NOTHING, "lay(3, 0, 9)", "lay(5, 0, 9)");
        due.finds(Run.rich().then("tear(0)"), Due.NOTHING, "lay(0, 0, 9)");
    }

    @Says(of = 3, words = "BEYOND")
    static void layAtAPlaceThatThereIsNot(Due due) {
        due.findsOutside(Run.rich(), Due.BEYOND, "lay(0, %, 9)", 0, 2);
        due.findsOutside(Run.rich(), Due.BEYOND, "lay(1, %, 9)", 0, -1);
        due.findsOutside(Run.anew().then("row(0, 40)"), Due.BEYOND, "lay(0, %, 9)", 0, 39);
        due.finds(Run.rich().then("row(0, 1)"), Due.BEYOND, "lay(0, 1, 9)");
    }

    @Says(of = 3, words = {"NOTHING", "BEYOND"})
    static void layFindsNothingAheadOfBeyond(Due due) {
        due.finds(Run.rich(), Due.NOTHING, "lay(3, -1, 9)", "lay(3, 40, 9)", "lay(3, HIGH, 9)");
    }

    // ---- Promise 4: at

    @Says(of = 4, words = "Place i of a ROW, told by asked(): 1")
    static void atTheFirstAndTheLastPlace(Due due) {
        due.tellsOnly(Run.rich(), "at(0, 0)", 1, 5);
        due.tellsOnly(Run.rich(), "at(0, 2)", 1, 7);
        Run run = Run.anew().then("row(1, 40)", "lay(1, 39, LOW)", "lay(1, 0, HIGH)");
        due.tellsOnly(run, "at(1, 39)", 1, Due.LOW);
        due.tellsOnly(run, "at(1, 0)", 1, Due.HIGH);
        due.tellsOnly(run, "at(1, 38)", 1, 0);
    }

    @Says(of = 4, words = "BAD")
    static void atOfARowThatIsNone(Due due) {
        due.refusesOutside(Run.rich(), Due.BAD, "at(%, 0)", 0, 5);
        due.refuses(Run.rich(), Due.BAD, "at(6, -1)", "at(-1, 40)");
    }

    @Says(of = 4, words = "NOTHING")
    static void atOfARowThatIsMissing(Due due) {
        due.finds(Run.rich(), Due.NOTHING, "at(3, 0)", "at(5, 0)");
        due.finds(Run.rich().then("tear(0)"), Due.NOTHING, "at(0, 0)");
    }

    @Says(of = 4, words = "BEYOND")
    static void atAPlaceThatThereIsNot(Due due) {
        due.findsOutside(Run.rich(), Due.BEYOND, "at(0, %)", 0, 2);
        due.findsOutside(Run.rich(), Due.BEYOND, "at(1, %)", 0, -1);
        due.findsOutside(Run.anew().then("row(0, 40)"), Due.BEYOND, "at(0, %)", 0, 39);
        due.finds(Run.rich().then("row(0, 1)"), Due.BEYOND, "at(0, 1)");
    }

    @Says(of = 4, words = {"NOTHING", "BEYOND"})
    static void atFindsNothingAheadOfBeyond(Due due) {
        due.finds(Run.rich(), Due.NOTHING, "at(3, -1)", "at(3, 40)", "at(3, LOW)");
    }

    // ---- Promise 5: tear

    @Says(of = 5, words = "A ROW is missing: 1")
    static void tearOneRowAlone(Due due) {
        Run run = Run.anew().row(0, 5).row(1).row(5, 6, 7);
        due.becomes(run, "tear(0)", 1, Run.anew().row(1).row(5, 6, 7));
        due.becomes(run, "tear(1)", 1, Run.anew().row(0, 5).row(5, 6, 7));
        due.becomes(run, "tear(5)", 1, Run.anew().row(0, 5).row(1));
    }

    @Says(of = 5, words = "BAD")
    static void tearARowThatIsNone(Due due) {
        due.refusesOutside(Run.rich(), Due.BAD, "tear(%)", 0, 5);
    }

    @Says(of = 5, words = "NOTHING")
    static void tearARowThatIsMissing(Due due) {
        due.finds(Run.rich(), Due.NOTHING, "tear(3)", "tear(5)");
        due.finds(Run.rich().then("tear(0)"), Due.NOTHING, "tear(0)");
    }

    // ---- Promise 6: copy

    private static final Run TWO = Run.anew().row(0, 1, 2, 3, 4, 5).row(1, 7, 8, 9);

    private static Run two(int[] first, int[] second) {
        return Run.anew().row(0, first).row(1, second);
    }

    @Says(of = 6, words = {"n places of a ROW, from one on, come to those of another one", "from one on, as if"})
    static void copyToAnotherRow(Due due) {
        int[] first = {1, 2, 3, 4, 5};
        due.becomes(TWO, "copy(0, 1, 1, 0, 2)", 1, two(first, new int[] {2, 3, 9}));
        due.becomes(TWO, "copy(0, 0, 1, 0, 3)", 1, two(first, new int[] {1, 2, 3}));
        due.becomes(TWO, "copy(0, 2, 1, 0, 3)", 1, two(first, new int[] {3, 4, 5}));
        due.becomes(TWO, "copy(0, 4, 1, 2, 1)", 1, two(first, new int[] {7, 8, 5}));
        due.becomes(TWO, "copy(1, 0, 0, 2, 3)", 1, two(new int[] {1, 2, 7, 8, 9}, new int[] {7, 8, 9}));
        due.becomes(TWO, "copy(0, 3, 1, 1, 0)", 1, TWO);
        Run forty = Run.anew().then("row(2, 40)", "lay(2, 0, 5)", "lay(2, 39, 6)");
        due.becomes(forty.then("row(3, 40)"), "copy(2, 0, 3, 0, 40)", 1,
            forty.then("row(3, 40)", "lay(3, 0, 5)", "lay(3, 39, 6)"));
    }

    @Says(of = 6, words = {"(perhaps itself)", "as if taken ahead: 1"})
    static void copyWithinARow(Due due) {
        Run run = Run.anew().row(0, 1, 2, 3, 4, 5);
        due.becomes(run, "copy(0, 0, 0, 1, 4)", 1, Run.anew().row(0, 1, 1, 2, 3, 4));
        due.becomes(run, "copy(0, 1, 0, 0, 4)", 1, Run.anew().row(0, 2, 3, 4, 5, 5));
        due.becomes(run, "copy(0, 0, 0, 2, 3)", 1, Run.anew().row(0, 1, 2, 1, 2, 3));
        due.becomes(run, "copy(0, 0, 0, 0, 5)", 1, run);
    }

    @Says(of = 6, words = "BAD")
    static void copyOfARowThatIsNone(Due due) {
        due.refusesOutside(Run.rich(), Due.BAD, "copy(%, 0, 0, 0, 1)", 0, 5);
        due.refusesOutside(Run.rich(), Due.BAD, "copy(0, 0, %, 0, 1)", 0, 5);
    }

    @Says(of = 6, words = "SIZE: n below 0")
    static void copyOfFewerThanNoPlaces(Due due) {
        due.becomes(TWO, "copy(0, 0, 1, 0, 0)", 1, TWO);
        due.finds(Run.rich(), Due.SIZE, "copy(0, 0, 0, 1, -1)", "copy(0, 2, 2, 1, -1)", "copy(0, 0, 2, 0, LOW)");
    }

    @Says(of = 6, words = "NOTHING: either")
    static void copyOfARowThatIsMissing(Due due) {
        due.finds(Run.rich(), Due.NOTHING, "copy(3, 0, 0, 0, 1)", "copy(0, 0, 3, 0, 1)", "copy(4, 0, 5, 0, 1)",
            "copy(3, 0, 3, 0, 0)", "copy(0, 0, 3, 0, 0)", "copy(3, 0, 0, 0, 0)");
    }

    @Says(of = 6, words = "BEYOND: not so many there")
    static void copyOfMoreThanThereIs(Due due) {
        due.is(TWO, "copy(0, 2, 1, 0, 3)", 1);
        due.finds(TWO, Due.BEYOND, "copy(0, 3, 1, 0, 3)", "copy(0, 5, 1, 0, 1)", "copy(0, 0, 0, 0, 6)");
        due.is(TWO, "copy(0, 0, 1, 1, 2)", 1);
        due.finds(TWO, Due.BEYOND, "copy(0, 0, 1, 1, 3)", "copy(0, 0, 1, 3, 1)", "copy(0, 0, 1, 0, 4)");
        due.finds(TWO, Due.BEYOND, "copy(0, -1, 1, 0, 1)", "copy(0, 0, 1, -1, 1)", "copy(0, -1, 1, 0, 2)",
            "copy(0, 0, 1, -2, 3)");
        due.finds(TWO, Due.BEYOND, "copy(0, 1, 1, 0, HIGH)", "copy(0, HIGH, 1, 0, 1)", "copy(0, 0, 1, HIGH, 1)",
            "copy(0, HIGH, 0, HIGH, HIGH)", "copy(0, LOW, 1, 0, 1)", "copy(0, 0, 1, LOW, 1)");
        due.finds(Run.rich(), Due.BEYOND, "copy(1, 0, 0, 0, 1)", "copy(0, 0, 1, 0, 1)", "copy(0, 0, 2, 0, 3)");
        // A ROW that was longer is only as long as it came anew.
        due.finds(TWO.then("row(0, 2)"), Due.BEYOND, "copy(0, 0, 1, 0, 3)", "copy(1, 0, 0, 0, 3)");
    }

    @Says(of = 6, words = "(with n 0, too, if i or j is below 0 or above the size)")
    static void copyOfNoPlacesBesideARow(Due due) {
        due.becomes(TWO, "copy(0, 5, 1, 3, 0)", 1, TWO);
        due.becomes(TWO, "copy(0, 0, 1, 0, 0)", 1, TWO);
        due.becomes(Run.rich(), "copy(1, 0, 1, 0, 0)", 1, Run.rich());
        due.findsOutside(TWO, Due.BEYOND, "copy(0, %, 1, 0, 0)", 0, 5);
        due.findsOutside(TWO, Due.BEYOND, "copy(0, 0, 1, %, 0)", 0, 3);
        due.findsOutside(Run.rich(), Due.BEYOND, "copy(1, %, 0, 0, 0)", 0, 0);
        due.findsOutside(Run.rich(), Due.BEYOND, "copy(0, 0, 1, %, 0)", 0, 0);
    }

    @Says(of = 6, words = "(In this order.)")
    static void copyIsRefusedInThisOrder(Due due) {
        due.refuses(Run.rich(), Due.BAD, "copy(6, 0, 0, 0, -1)", "copy(0, 0, -1, 0, -1)", "copy(6, 0, 3, 0, 1)",
            "copy(3, 0, 6, 0, 1)", "copy(6, 9, 0, 9, 9)");
        due.finds(Run.rich(), Due.SIZE, "copy(3, 0, 0, 0, -1)", "copy(0, 0, 3, 0, -1)", "copy(0, 9, 0, 9, -1)",
            "copy(0, -1, 0, -1, LOW)");
        due.finds(Run.rich(), Due.NOTHING, "copy(3, -1, 0, 9, 1)", "copy(0, 9, 3, 0, 1)", "copy(0, 0, 3, -1, 9)",
            "copy(0, -1, 3, 0, 0)");
    }

    // ---- Promise 7: mean

    @Says(of = 7, words = {"The mean of a ROW's ints", "told by asked(): 1"})
    static void meanOfSomeInts(Due due) {
        due.tellsOnly(Run.rich(), "mean(0)", 1, 6);
        due.tellsOnly(Run.rich().row(3, 9), "mean(3)", 1, 9);
        due.tellsOnly(Run.rich().then("row(3, 40)", "lay(3, 0, 80)"), "mean(3)", 1, 2);
        due.tellsOnly(Run.rich().then("row(3, 40)", "lay(3, 39, 80)"), "mean(3)", 1, 2);
        due.tellsOnly(Run.rich().row(0, 1, 2, 3).row(0, 8), "mean(0)", 1, 8);
    }

    @Says(of = 7, words = ", cut, ")
    static void meanIsCut(Due due) {
        due.tells(Run.anew().row(0, 1, 2, 2), "mean(0)", 1, 1);
        due.tells(Run.anew().row(0, 2, 2, 2), "mean(0)", 1, 2);
        due.tells(Run.anew().row(0, 0, 1), "mean(0)", 1, 0);
        due.tells(Run.anew().row(0, -1, -2, -2), "mean(0)", 1, -1);
        due.tells(Run.anew().row(0, 0, -1), "mean(0)", 1, 0);
        due.tells(Run.anew().row(0, -2, -2), "mean(0)", 1, -2);
    }

    @Says(of = 7, words = "The mean of a ROW's ints")
    static void meanOfTheGreatestInts(Due due) {
        Run high = Run.anew().then("row(0, 40)");
        Run low = high;
        for (int i = 0; i < 40; i++) {
            high = high.then("lay(0, " + i + ", HIGH)");
            low = low.then("lay(0, " + i + ", LOW)");
        }
        due.tells(high, "mean(0)", 1, Due.HIGH);
        due.tells(low, "mean(0)", 1, Due.LOW);
        due.tells(Run.anew().then("row(0, 2)", "lay(0, 0, HIGH)", "lay(0, 1, LOW)"), "mean(0)", 1, 0);
    }

    @Says(of = 7, words = "BAD")
    static void meanOfARowThatIsNone(Due due) {
        due.refusesOutside(Run.rich(), Due.BAD, "mean(%)", 0, 5);
    }

    @Says(of = 7, words = "NOTHING")
    static void meanOfARowThatIsMissing(Due due) {
        due.finds(Run.rich(), Due.NOTHING, "mean(3)", "mean(5)");
    }

    @Says(of = 7, words = "NOUGHT")
    static void meanOfNoInts(Due due) {
        due.finds(Run.rich(), Due.NOUGHT, "mean(1)");
        due.finds(Run.rich().then("row(0, 0)"), Due.NOUGHT, "mean(0)");
        due.tellsOnly(Run.rich().then("row(1, 1)"), "mean(1)", 1, 0);
    }
}
