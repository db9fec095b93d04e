/** What the Terms say of ANSWERS: in which order a call is refused, FINDINGS, sets. */
public final class AnswersTest {
    public static void main(String[] args) {
        Due.run(AnswersTest.class);
    }

    private static final Run FULL = Run.of("r04 m010 m110 m510").then("stop()").times(39, "bar()");

    @Says(of = 0, words = {"BAD -1", "FULL -2", "STATE -4", "SPENT -6 (more than told)", "FINDING -3", "NONE -9"})
    static void theNumbersOfAnswers(Due due) {
        due.is("BAD", ChairCabinet.BAD, -1);
        due.is("FULL", ChairCabinet.FULL, -2);
        due.is("FINDING", ChairCabinet.FINDING, -3);
        due.is("STATE", ChairCabinet.STATE, -4);
        due.is("SPENT", ChairCabinet.SPENT, -6);
        due.is("NONE", ChairCabinet.NONE, -9);
    }

    @Says(of = 0, words = {"BAD -1 (a number that is none, or not as told)"})
    static void aNumberThatIsNoneIsBad(Due due) {
        due.refuses(Run.rich(), Due.BAD, "row(6, 1)", "row(0, 41)", "lay(-1, 0, 1)", "at(6, 0)", "tear(6)",
            "copy(0, 0, 6, 0, 1)", "mean(-1)", "text(4, 1)", "text(0, 61)", "put(4, 0, 1)", "fault(4)",
            "cabinet(-1)", "minister(6, 0)", "minister(0, 6)", "mark(6, 1)", "mark(0, 0)", "take(8)", "nudge(6)",
            "undo(6)", "keep(3)", "on(-1)", "where(2, 61)", "sits(21)", "bars(6)", "when(64)", "remove(2, 21)",
            "spare(2, 21)", "reign(2, 4, 0)", "kinds(6, 1)", "paces(6, 1)", "places(6, 1)", "tune(6)",
            "bribe(2, 4)", "odds(2, 7, 1)", "mid(7, 1)", "lots(21, 1)", "lots(1, 0)", "count(11)", "findings(6)");
    }

    @Says(of = 0, words = {"Refused is, the first of these that fits, in this order: BAD", "FULL"})
    static void badIsAheadOfFull(Due due) {
        due.refuses(FULL, Due.BAD, "take(8)", "take(-1)", "nudge(3)", "nudge(-1)", "lots(0, 1)", "lots(21, 1)",
            "lots(1, 0)", "lots(1, 2147483647)");
        due.refuses(FULL, Due.FULL, "take(0)", "nudge(0)", "lots(1, 1)", "bar()", "stop()");
    }

    @Says(of = 0, words = {"BAD", "STATE -4 (not now)"})
    static void badIsAheadOfState(Due due) {
        due.refuses(Run.anew(), Due.BAD, "take(8)", "keep(3)", "sits(21)", "when(-1)", "when(64)", "mid(7, 0)",
            "mid(0, 13)", "lots(0, 1)", "lots(1, 0)", "nudge(0)", "where(0, 0)", "bars(0)", "remove(0, 0)",
            "spare(0, 0)", "reign(0, 0, 0)", "bribe(0, 0)", "odds(0, 0, 0)");
        due.refuses(Run.anew(), Due.STATE, "take(7)", "keep(2)", "sits(20)", "when(0)", "mid(6, 12)",
            "lots(20, 1)", "bar()", "stop()");
        due.refuses(Run.rich(), Due.BAD, "where(0, 61)", "remove(0, 21)", "spare(0, 21)", "reign(0, 4, 0)",
            "reign(0, 0, 6)", "bribe(0, 4)", "odds(0, 7, 0)", "odds(0, 0, 13)", "take(8)");
        due.refuses(Run.rich(), Due.STATE, "where(0, 60)", "bars(0)", "remove(0, 20)", "spare(0, 20)",
            "reign(0, 3, 5)", "bribe(0, 3)", "odds(0, 6, 12)", "nudge(0)", "take(7)");
    }

    @Says(of = 0, words = {"BAD", "FINDING -3 (finding() tells which)"})
    static void badIsAheadOfAFinding(Due due) {
        due.refuses(Run.rich(), Due.BAD, "row(6, -1)", "lay(6, 40, 0)", "at(6, 40)", "copy(6, 9, 3, 9, -1)",
            "copy(3, 9, 6, 9, -1)", "text(4, -1)", "put(4, 60, 0)", "mark(0, 0)", "mark(6, 1)", "mark(0, 6)",
            "kinds(6, 3)", "kinds(6, 0)", "paces(6, 3)", "paces(6, 0)", "places(6, 3)", "places(6, 0)");
    }

    @Says(of = 0, words = "unless a call says so otherwise")
    static void someCallsSayOtherwise(Due due) {
        // take(), nudge() are FULL last; cabinet() finds NOTHING ahead of STATE.
        due.refuses(FULL, Due.STATE, "take(1)", "nudge(1)");
        due.finds(FULL, Due.NOTHING, "cabinet(1)");
        due.refuses(FULL.then("text(1, 0)"), Due.STATE, "cabinet(1)");
    }

    @Says(of = 0, words = "What is refused changes nothing but finding(), findings()")
    static void whatIsRefusedChangesFindingsAlone(Due due) {
        due.finds(Run.rich(), Due.NOTHING, "lay(3, 0, 1)", "at(3, 0)", "tear(3)", "copy(3, 0, 0, 0, 1)",
            "copy(0, 0, 3, 0, 1)", "mean(3)", "put(3, 0, 1)", "fault(3)", "cabinet(3)", "on(2)", "kinds(2, 3)",
            "paces(2, 3)", "places(2, 3)", "tune(3)");
        due.finds(Run.rich(), Due.BEYOND, "lay(0, 3, 1)", "at(0, 3)", "copy(0, 1, 0, 0, 3)",
            "copy(0, 0, 0, 1, 3)", "put(1, 5, 1)");
        due.finds(Run.rich(), Due.UNLIKE, "mark(0, 1)", "kinds(2, 4)", "paces(2, 4)", "places(2, 4)");
        due.finds(Run.rich(), Due.NOUGHT, "mean(1)");
        due.finds(Run.rich(), Due.SIZE, "row(0, -1)", "copy(0, 0, 0, 0, -1)", "text(0, -1)", "kinds(2, 0)",
            "paces(2, 0)", "places(2, 0)", "tune(1)");
        due.refuses(Run.rich(), Due.STATE, "cabinet(1)", "take(7)", "nudge(0)", "where(0, 1)", "bars(0)",
            "remove(0, 1)", "spare(0, 1)", "reign(0, 1, 0)", "bribe(0, 1)", "odds(0, 1, 1)");
        due.refuses(Run.rich(), Due.NONE, "when(1)", "spare(2, 0)");
        due.refuses(FULL, Due.FULL, "bar()", "stop()", "take(0)", "nudge(0)", "lots(1, 1)");
    }

    @Says(of = 0, words = {"NONE -9 (as an answer"})
    static void noneIsAnAnswer(Due due) {
        due.leaves(Run.rich(), "fault(0)", Due.NONE);
        due.leaves(Run.rich(), "when(1)", Due.NONE);
        due.leaves(Run.rich(), "spare(2, 0)", Due.NONE);
        due.leaves(Run.rich().row(0, 1, 2, 3, 4, 5, 6, 7, 8, 9, 10, 11), "tune(0)", Due.NONE);
        due.leaves(Run.of("r7 m010").row(0, 5).then("at(0, 0)"), "reign(0, 1, 0)", Due.NONE);
    }

    @Says(of = 0, words = "FINDINGS: 1 NOTHING (a ROW, a TEXT, a kept CABINET that is missing)")
    static void finding1IsNothing(Due due) {
        due.finds(Run.rich(), 1, "at(3, 0)", "fault(3)", "on(2)");
    }

    @Says(of = 0, words = "2 BEYOND (a place of a ROW, a TEXT that there is not)")
    static void finding2IsBeyond(Due due) {
        due.finds(Run.rich(), 2, "at(0, 3)", "at(0, -1)", "put(1, 5, 0)", "put(1, -1, 0)");
    }

    @Says(of = 0, words = "3 UNLIKE (a MINISTER of another KIND; a number that is none)")
    static void finding3IsUnlike(Due due) {
        due.finds(Run.rich(), 3, "mark(0, 1)", "kinds(2, 4)", "paces(2, 4)", "places(2, 4)");
    }

    @Says(of = 0, words = "4 NOUGHT (shared among none)")
    static void finding4IsNought(Due due) {
        due.finds(Run.rich(), 4, "mean(1)");
    }

    @Says(of = 0, words = "5 SIZE (fewer than none; too many, not as many as due)")
    static void finding5IsSize(Due due) {
        due.finds(Run.rich(), 5, "row(0, -1)", "text(0, -1)", "copy(0, 0, 0, 0, -1)", "tune(1)", "kinds(2, 0)");
        due.finds(Run.rich().then("row(0, 18)"), 5, "kinds(2, 0)", "paces(2, 0)", "places(2, 0)");
    }

    // ---- sets

    @Says(of = 0, words = "Sets (of MINISTERS, ")
    static void setsOfMinisters(Due due) {
        due.is(Run.of("r0 m010"), "count(3)", 1);
        due.is(Run.of("r5 m010 m010 m010 m010 m010 m510").then("stop()"), "count(3)", 32);
        due.is(Run.of("r5 m010 m010 m010 m010 m010 m510"), "sits(0)", 32);
        due.is(Run.of("r5 m010 m010 m010 m010 m010 m510"), "when(32)", 0);
        due.is(Run.of("r5 m010 m010 m010 m010 m010 m510"), "when(33)", Due.NONE);
    }

    @Says(of = 0, words = "of CHAIRS by their PLACES")
    static void setsOfChairs(Due due) {
        due.is(Run.of("r07 m710"), "count(4)", 1 + 128);
        due.tells(Run.of("r07 m710"), "sits(0)", 1, 128);
        due.tells(Run.of("r07 m710"), "sits(1)", 1, 1);
        due.tells(Run.of("r7 m710"), "remove(0, 0)", 1, 128);
        due.is(Run.of("r07 m710").row(0, 0, 7), "places(0, 0)", 128);
    }

    @Says(of = 0, words = "of KINDS, of PACES")
    static void setsOfKindsOfPaces(Due due) {
        due.is(Run.of("r0 m010").row(0, 1, 1), "kinds(0, 0)", 1 + 4 + 8 + 32);
        due.is(Run.of("r0 m010").row(0, 1, 0), "kinds(0, 0)", 2 + 16);
        due.is(Run.of("r0 m010").row(0, 1, 1), "paces(0, 0)", 2);
        due.is(Run.of("r0 m010").row(0, 1, 3), "paces(0, 0)", 8);
    }

    @Says(of = 0, words = ", of BARS) are told by bits")
    static void setsOfBars(Due due) {
        due.is(Run.of("r4 m410"), "bars(0)", 1 | 1 << 7 | 1 << 8 | 1 << 15 | 1 << 16);
        due.is(Run.of("r5 m110"), "bars(0)", 1 << 3 | 1 << 4 | 1 << 11 | 1 << 12 | 1 << 19 | 1 << 20);
    }
}
