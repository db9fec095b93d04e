/** Promises 28 to 31: what one can be by where one was, the rule of a band. */
public final class CluesTest {
    private static final int WALKERS = 1 + 4 + 8 + 32, HOVERERS = 2 + 16;
    private static final int ALL_KINDS = 63, ALL_PACES = 2 + 4 + 8, ALL_PLACES = 255;
    private static final String[] CALLS = {"kinds(2, 0)", "paces(2, 0)", "places(2, 0)"};

    public static void main(String[] args) {
        Due.run(CluesTest.class);
    }

    private static void all(Due due, Run run, int kinds, int paces, int places) {
        due.leaves(run, "kinds(0, 0)", kinds);
        due.leaves(run, "paces(0, 0)", paces);
        due.leaves(run, "places(0, 0)", places);
    }

    // ---- what the Terms say of the ROW of pairs

    /** At 2, by 1: behind 20 BARS at 6. */
    private static final Run WALKER = Run.of("r0 m210");

    @Says(of = 0, words = "(a ROW of pairs, 0 to 8")
    static void pairsAre0To8(Due due) {
        all(due, WALKER.row(0), ALL_KINDS, ALL_PACES, ALL_PLACES);
        all(due, WALKER.row(0, 1, 3), ALL_KINDS, 2, 4);
        // The eighth pair, too, counts.
        all(due, WALKER.row(0, 0, 2, 0, 2, 0, 2, 0, 2, 0, 2, 0, 2, 0, 2, 1, 3), ALL_KINDS, 2, 4);
        all(due, WALKER.row(0, 0, 2, 0, 2, 0, 2, 0, 2, 0, 2, 0, 2, 0, 2, 1, 4), 0, 4, 0);
        Run nine = Run.rich().row(0, 0, 5, 0, 5, 0, 5, 0, 5, 0, 5, 0, 5, 0, 5, 0, 5, 0, 5);
        due.finds(nine, Due.SIZE, CALLS);
        due.finds(Run.rich().then("row(0, 18)"), Due.SIZE, CALLS);
        due.finds(Run.rich().then("row(0, 40)"), Due.SIZE, CALLS);
    }

    @Says(of = 0, words = "a ROW of pairs")
    static void pairsOfAnEarlierRowAreGone(Due due) {
        Run longer = WALKER.row(0, 1, 3, 99, 99, 99, 99).then("row(0, 2)", "lay(0, 0, 1)", "lay(0, 1, 3)");
        all(due, longer, ALL_KINDS, 2, 4);
        all(due, longer.then("row(0, 0)"), ALL_KINDS, ALL_PACES, ALL_PLACES);
        Run sixteen = WALKER.row(0, 1, 3, 0, 2, 0, 2, 0, 2, 0, 2, 0, 2, 0, 2, 0, 2, 99, 99);
        due.finds(sixteen, Due.SIZE, "kinds(0, 0)", "paces(0, 0)", "places(0, 0)");
        for (int n = 0; n <= 16; n += 2) {
            all(due, sixteen.then("row(1, " + n + ")", "copy(0, 0, 1, 0, " + n + ")", "row(0, " + n + ")",
                "copy(1, 0, 0, 0, " + n + ")"), ALL_KINDS, n == 0 ? ALL_PACES : 2, n == 0 ? ALL_PLACES : 4);
        }
    }

    @Says(of = 0, words = "a ROW of pairs")
    static void halfAPairIsNone(Due due) {
        due.finds(Run.rich().row(0, 0), Due.SIZE, CALLS);
        due.finds(Run.rich().row(0, 0, 5, 0), Due.SIZE, CALLS);
        due.finds(Run.rich().then("row(0, 15)"), Due.SIZE, CALLS);
        due.finds(Run.rich().then("row(0, 17)"), Due.SIZE, CALLS);
        due.finds(Run.rich().then("row(0, 39)"), Due.SIZE, CALLS);
    }

    @Says(of = 0, words = "in how many BARS from now on 0 .. 20")
    static void pairsAreOf0To20Bars(Due due) {
        all(due, WALKER.row(0, 0, 2), ALL_KINDS, ALL_PACES, 4);
        all(due, WALKER.row(0, 20, 6), WALKERS, 2 + 8, 4);
        all(due, WALKER.row(0, 19, 5), WALKERS, 2, 4);
        all(due, WALKER.row(0, 0, 2, 20, 6, 19, 5), WALKERS, 2, 4);
        for (String bars : new String[] {"-1", "21", "LOW", "HIGH"}) {
            due.finds(Run.rich().row(0, 0, 5).then("lay(0, 0, " + bars + ")"), Due.UNLIKE, CALLS);
            due.finds(Run.rich().row(0, 0, 5, 1, 0).then("lay(0, 2, " + bars + ")"), Due.UNLIKE, CALLS);
            due.finds(Run.rich().row(0, 0, 4, 0, 5).then("lay(0, 2, " + bars + ")"), Due.UNLIKE, CALLS);
            due.finds(Run.rich().then("row(0, 16)", "lay(0, 14, " + bars + ")"), Due.UNLIKE, CALLS);
        }
    }

    @Says(of = 0, words = "the PLACE then")
    static void pairsAreOfPlaces0To7(Due due) {
        for (int place = 0; place <= 7; place++) {
            all(due, WALKER.row(0, 0, place), place == 2 ? ALL_KINDS : 0, place == 2 ? ALL_PACES : 0, 1 << place);
        }
        for (String place : new String[] {"-1", "8", "LOW", "HIGH"}) {
            due.finds(Run.rich().row(0, 0, 5).then("lay(0, 1, " + place + ")"), Due.UNLIKE, CALLS);
            due.finds(Run.rich().row(0, 0, 4, 1, 0).then("lay(0, 3, " + place + ")"), Due.UNLIKE, CALLS);
            due.finds(Run.rich().then("row(0, 16)", "lay(0, 15, " + place + ")"), Due.UNLIKE, CALLS);
        }
    }

    @Says(of = 0, words = "from now on")
    static void pairsCountFromNowOn(Due due) {
        all(due, WALKER.times(3, "bar()").row(0, 0, 5), ALL_KINDS, ALL_PACES, 32);
        all(due, WALKER.times(3, "bar()").row(0, 1, 6), ALL_KINDS, 2, 32);
        all(due, WALKER.then("nudge(0)").row(0, 1, 4), ALL_KINDS, 2, 8);
        all(due, Run.of("r02 m210").row(0, 1, 3), WALKERS, 2, 4);
        all(due, Run.of("r02 m210").then("take(2)").row(0, 1, 3), ALL_KINDS, 2, 4);
    }

    @Says(of = 0, words = "walking on as one who is IN, also if OUT")
    static void pairsOfOneWhoIsOut(Due due) {
        Run run = Run.of("r0 o420 m010").then("stop()");
        due.is(run, "count(3)", 2);
        // At 4, by 2: at 6, at 0, where a CHAIR is, then by 1 less.
        all(due, run.row(0, 0, 4), ALL_KINDS, ALL_PACES, 16);
        all(due, run.row(0, 2, 0, 3, 1), HOVERERS, 4, 16);
        all(due, run.row(0, 1, 4), 0, 0, 4);
    }

    @Says(of = 0, words = {"NOTHING; SIZE; UNLIKE; behind BAD)"})
    static void pairsAreRefusedInThisOrder(Due due) {
        for (String call : new String[] {"kinds", "paces", "places"}) {
            due.refuses(Run.rich(), Due.BAD, call + "(6, 3)", call + "(-1, 0)", call + "(0, 6)", call + "(6, -1)");
            due.finds(Run.rich(), Due.NOTHING, call + "(0, 3)");
            due.finds(Run.rich().row(3, 99), Due.SIZE, call + "(0, 3)");
            due.finds(Run.rich().row(3, 99, 99, 99), Due.SIZE, call + "(0, 3)");
            due.finds(Run.rich().then("row(3, 18)", "lay(3, 0, -1)"), Due.SIZE, call + "(0, 3)");
            due.finds(Run.rich().row(3, 99, 99), Due.UNLIKE, call + "(0, 3)");
        }
    }

    // ---- Promise 28: kinds

    @Says(of = 28, words = {"Of which KINDS (bits) a MINISTER can be by these", "being where one is"})
    static void kindsByWhereOneWas(Due due) {
        Run run = Run.of("r2 m120 o120 y730");
        due.leaves(run.row(0), "kinds(0, 0)", 63);
        due.leaves(run.row(0, 0, 1), "kinds(0, 0)", 63);
        due.leaves(run.row(0, 0, 2), "kinds(0, 0)", 0);
        due.leaves(run.row(0, 1, 3), "kinds(0, 0)", 63);
        due.leaves(run.row(0, 1, 2), "kinds(2, 0)", 63);
        due.leaves(run.row(0, 2, 5), "kinds(2, 0)", WALKERS);
        due.leaves(run.row(0, 2, 4), "kinds(2, 0)", HOVERERS);
        due.leaves(run.row(0, 2, 4, 2, 5), "kinds(2, 0)", 0);
        due.leaves(run.row(0, 20, 1, 2, 5, 0, 1), "kinds(1, 0)", 63);
        due.leaves(run.then("nudge(0)").row(0, 1, 3), "kinds(0, 0)", HOVERERS);
        due.leaves(run.then("nudge(0)").row(0, 1, 4), "kinds(0, 0)", WALKERS);
    }

    @Says(of = 28, words = "BAD")
    static void kindsOfWhatIsNone(Due due) {
        due.refusesOutside(Run.rich(), Due.BAD, "kinds(%, 1)", 0, 5);
        due.refusesOutside(Run.rich(), Due.BAD, "kinds(2, %)", 0, 5);
        due.refusesOutside(Run.of("r0 m010").row(0), Due.BAD, "kinds(%, 0)", 0, 0);
        due.refusesOutside(Run.anew().row(0), Due.BAD, "kinds(%, 0)", 0, -1);
    }

    @Says(of = 28, words = {"NOTHING", "SIZE", "UNLIKE"})
    static void kindsFindsWhatIsAmiss(Due due) {
        due.finds(Run.rich(), Due.NOTHING, "kinds(0, 3)", "kinds(2, 5)");
        due.finds(Run.rich(), Due.SIZE, "kinds(0, 0)");
        due.finds(Run.rich().row(5, 21, 0), Due.UNLIKE, "kinds(0, 5)", "kinds(2, 5)");
    }

    // ---- Promise 29: paces

    @Says(of = 29, words = "Of which PACES (bits 1 .. 3) one can be")
    static void pacesByWhereOneWas(Due due) {
        Run run = Run.of("r27 m010 o720 a710");
        due.leaves(run.row(0), "paces(0, 0)", 2 + 4 + 8);
        due.leaves(run.row(0, 1, 0), "paces(0, 0)", 0);
        due.leaves(run.row(0, 1, 1), "paces(0, 0)", 2);
        due.leaves(run.row(0, 1, 2), "paces(0, 0)", 4);
        due.leaves(run.row(0, 1, 3), "paces(0, 0)", 8);
        due.leaves(run.row(0, 1, 4), "paces(0, 0)", 0);
        due.leaves(run.row(0, 8, 0), "paces(0, 0)", 2 + 4 + 8);
        due.leaves(run.row(0, 4, 4), "paces(0, 0)", 2 + 8);
        due.leaves(run.row(0, 1, 7), "paces(1, 0)", 2);
        due.leaves(run.row(0, 2, 2), "paces(1, 0)", 4);
        due.leaves(run.row(0, 1, 1), "paces(2, 0)", 8);
        due.leaves(run.row(0, 1, 5), "paces(2, 0)", 0);
        due.leaves(run.row(0, 0, 1), "paces(0, 0)", 0);
    }

    @Says(of = 29, words = "BAD")
    static void pacesOfWhatIsNone(Due due) {
        due.refusesOutside(Run.rich(), Due.BAD, "paces(%, 1)", 0, 5);
        due.refusesOutside(Run.rich(), Due.BAD, "paces(2, %)", 0, 5);
        due.refusesOutside(Run.of("r0 m010").row(0), Due.BAD, "paces(%, 0)", 0, 0);
        due.refusesOutside(Run.anew().row(0), Due.BAD, "paces(%, 0)", 0, -1);
    }

    @Says(of = 29, words = {"NOTHING", "SIZE", "UNLIKE"})
    static void pacesFindsWhatIsAmiss(Due due) {
        due.finds(Run.rich(), Due.NOTHING, "paces(0, 3)", "paces(2, 5)");
        due.finds(Run.rich(), Due.SIZE, "paces(0, 0)");
        due.finds(Run.rich().row(5, 21, 0), Due.UNLIKE, "paces(0, 5)", "paces(2, 5)");
    }

    // ---- Promise 30: places

    @Says(of = 30, words = "At which PLACES (bits) one can be now")
    static void placesByWhereOneWas(Due due) {
        Run run = Run.of("r27 m030 o020 a010");
        due.leaves(run.row(0), "places(0, 0)", 255);
        due.leaves(run.row(0, 0, 0), "places(0, 0)", 1);
        due.leaves(run.row(0, 0, 7), "places(0, 0)", 128);
        due.leaves(run.row(0, 1, 1), "places(0, 0)", 64);
        due.leaves(run.row(0, 1, 3), "places(0, 0)", 1);
        due.leaves(run.row(0, 20, 3), "places(0, 0)", 128);
        due.leaves(run.row(0, 1, 0), "places(1, 0)", 64 + 128);
        due.leaves(run.row(0, 1, 1), "places(1, 0)", 0);
        due.leaves(run.row(0, 1, 7), "places(2, 0)", 64 + 128);
        due.leaves(run.row(0, 20, 7), "places(2, 0)", 8 + 16 + 32 + 64 + 128);
        due.leaves(run.row(0, 20, 2), "places(2, 0)", 1 + 2 + 4);
        due.leaves(run.row(0, 1, 1, 2, 5), "places(0, 0)", 0);
    }

    @Says(of = 30, words = "BAD")
    static void placesOfWhatIsNone(Due due) {
        due.refusesOutside(Run.rich(), Due.BAD, "places(%, 1)", 0, 5);
        due.refusesOutside(Run.rich(), Due.BAD, "places(2, %)", 0, 5);
        due.refusesOutside(Run.of("r0 m010").row(0), Due.BAD, "places(%, 0)", 0, 0);
        due.refusesOutside(Run.anew().row(0), Due.BAD, "places(%, 0)", 0, -1);
    }

    @Says(of = 30, words = {"NOTHING", "SIZE", "UNLIKE"})
    static void placesFindsWhatIsAmiss(Due due) {
        due.finds(Run.rich(), Due.NOTHING, "places(0, 3)", "places(2, 5)");
        due.finds(Run.rich(), Due.SIZE, "places(0, 0)");
        due.finds(Run.rich().row(5, 21, 0), Due.UNLIKE, "places(0, 5)", "places(2, 5)");
    }

    // ---- Promise 31: tune

    private static void tune(Due due, int rule, int next, int... bars) {
        due.tellsOnly(Run.rich().row(3, bars), "tune(3)", rule, next);
    }

    /** A ROW of so many ints, of 1 to rule again and again. */
    private static int[] again(int rule, int size) {
        int[] bars = new int[size];
        for (int k = 0; k < size; k++) {
            bars[k] = 1 + k % rule;
        }
        return bars;
    }

    @Says(of = 31, words = {"The least rule of a band: the fewest", "of which a ROW", "is made again and again",
        "the one that comes next by asked()"})
    static void tuneOfTheFewest(Due due) {
        tune(due, 1, -2, -2, -2, -2);
        tune(due, 2, 1, 1, 2);
        tune(due, 2, 1, 1, 2, 1, 2, 1, 2);
        tune(due, 3, 1, 1, 1, 2);
        tune(due, 4, 1, 1, 2, 2, 2);
        tune(due, 4, 1, 1, 2, 1, 3, 1, 2, 1, 3);
        tune(due, 1, Due.HIGH, Due.HIGH, Due.HIGH);
        tune(due, 2, Due.LOW, Due.LOW, Due.HIGH);
    }

    @Says(of = 31, words = "the fewest (1 .. 10) BARS between STOPS")
    static void tuneOf1To10Bars(Due due) {
        for (int rule = 1; rule <= 10; rule++) {
            tune(due, rule, 1, again(rule, rule));
            tune(due, rule, 1, again(rule, 2 * rule));
            tune(due, rule, rule == 1 ? 1 : 2, again(rule, rule + 1));
        }
    }

    @Says(of = 31, words = "a ROW (1 to 40 ints)")
    static void tuneOf1To40Ints(Due due) {
        tune(due, 1, 5, 5);
        tune(due, 1, 0, 0);
        due.tellsOnly(Run.rich().then("row(3, 40)"), "tune(3)", 1, 0);
        tune(due, 10, 1, again(10, 40));
        tune(due, 10, 10, again(10, 39));
        tune(due, 7, 6, again(7, 40));
        tune(due, 2, 1, again(2, 40));
        due.leaves(Run.rich().then("row(3, 40)", "lay(3, 39, 1)"), "tune(3)", Due.NONE);
    }

    @Says(of = 31, words = "(the last time perhaps in part)")
    static void tuneOfTheLastTimeInPart(Due due) {
        tune(due, 2, 2, 1, 2, 1);
        tune(due, 3, 2, 1, 2, 1, 1);
        tune(due, 3, 2, 1, 1, 2, 1, 1);
        tune(due, 3, 3, 1, 2, 3, 1, 2, 3, 1, 2);
        tune(due, 10, 2, again(10, 11));
        tune(due, 10, 10, again(10, 19));
    }

    @Says(of = 31, words = "NONE: more than 10 are needed")
    static void tuneOfMoreThan10(Due due) {
        due.leaves(Run.rich().row(3, again(11, 11)), "tune(3)", Due.NONE);
        due.leaves(Run.rich().row(3, again(11, 12)), "tune(3)", Due.NONE);
        due.leaves(Run.rich().row(3, again(11, 22)), "tune(3)", Due.NONE);
        due.leaves(Run.rich().row(3, again(40, 40)), "tune(3)", Due.NONE);
        due.leaves(Run.rich().row(3, 1, 1, 1, 1, 1, 1, 1, 1, 1, 1, 2), "tune(3)", Due.NONE);
        tune(due, 10, 1, 1, 1, 1, 1, 1, 1, 1, 1, 1, 2);
    }

    @Says(of = 31, words = "BAD")
    static void tuneOfARowThatIsNone(Due due) {
        due.refusesOutside(Run.rich(), Due.BAD, "tune(%)", 0, 5);
    }

    @Says(of = 31, words = "NOTHING")
    static void tuneOfARowThatIsMissing(Due due) {
        due.finds(Run.rich(), Due.NOTHING, "tune(3)", "tune(5)");
    }

    @Says(of = 31, words = "SIZE: an empty ROW")
    static void tuneOfAnEmptyRow(Due due) {
        due.finds(Run.rich(), Due.SIZE, "tune(1)");
        due.finds(Run.rich().then("row(0, 0)"), Due.SIZE, "tune(0)");
        tune(due, 1, 9, 9);
    }
}
