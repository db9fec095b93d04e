/** Promises 8 to 11: TEXTS, FAULTS, a CABINET by a TEXT. */
public final class TextsTest {
    public static void main(String[] args) {
        Due.run(TextsTest.class);
    }

    // ---- what the Terms say of TEXTS

    @Says(of = 0, words = "TEXTS 0 .. 3 rows")
    static void textsAreThoseOf0To3(Due due) {
        Played x = new Played();
        for (int t = 0; t <= 3; t++) {
            due.is(x, "text(" + t + ", 2)", 2);
            due.is(x, "put(" + t + ", 1, " + (65 + t) + ")", 1032);
        }
        for (int t = 0; t <= 3; t++) {
            due.is(x, "put(" + t + ", 0, 0)", 1032);
            due.is(x, "put(" + t + ", 1, 0)", 1065 + t);
        }
        for (String call : new String[] {"text(%, 1)", "put(%, 0, 9)", "fault(%)", "cabinet(%)"}) {
            due.refusesOutside(Run.rich(), Due.BAD, call, 0, 3);
        }
    }

    @Says(of = 0, words = {"of 0 to 60 bytes", "or missing (at first)"})
    static void textsOf0To60Bytes(Due due) {
        for (int t = 0; t <= 3; t++) {
            due.is(Run.anew(), "text(" + t + ", 0)", 0);
            due.is(Run.anew(), "text(" + t + ", 60)", 60);
            due.refuses(Run.anew(), Due.BAD, "text(" + t + ", 61)");
            due.finds(Run.anew(), Due.SIZE, "text(" + t + ", -1)");
            due.finds(Run.anew(), Due.NOTHING, "put(" + t + ", 0, 65)");
        }
    }

    // ---- Promise 8: text

    @Says(of = 8, words = "A TEXT is there with n blanks: n")
    static void textOfSomeBlanks(Due due) {
        for (int n : new int[] {0, 1, 2, 59, 60}) {
            Played x = new Played();
            due.is(x, "text(2, " + n + ")", n);
            due.is(x, "count(9)", 1);
            for (int i = 0; i < n; i++) {
                due.is(x, "put(2, " + i + ", 65)", 1032);
            }
            due.is(x, "put(2, " + n + ", 65)", Due.FINDING);
        }
    }

    @Says(of = 8, words = "A TEXT is there with n blanks")
    static void textThatIsThereComesAnew(Due due) {
        Run run = Run.anew().text(1, "abc").text(2, "d");
        due.becomes(run, "text(1, 3)", 3, Run.anew().text(1, "   ").text(2, "d"));
        due.becomes(run, "text(1, 2)", 2, Run.anew().text(1, "  ").text(2, "d"));
        due.becomes(run, "text(1, 0)", 0, Run.anew().text(1, "").text(2, "d"));
        due.becomes(run, "text(1, 60)", 60, Run.anew().then("text(1, 60)").text(2, "d"));
        due.becomes(run.then("text(1, 1)"), "text(1, 3)", 3, Run.anew().text(1, "   ").text(2, "d"));
    }

    @Says(of = 8, words = "BAD: also n above 60")
    static void textOfMoreThan60Bytes(Due due) {
        due.becomes(Run.anew().text(0, "a"), "text(0, 60)", 60, Run.anew().then("text(0, 60)"));
        due.refuses(Run.rich(), Due.BAD, "text(1, 61)", "text(1, 62)", "text(1, HIGH)", "text(3, 61)");
    }

    @Says(of = 8, words = "BAD")
    static void textThatIsNone(Due due) {
        due.refusesOutside(Run.rich(), Due.BAD, "text(%, 0)", 0, 3);
    }

    @Says(of = 8, words = "SIZE: below 0")
    static void textOfFewerThanNoBytes(Due due) {
        due.becomes(Run.anew().text(0, "a"), "text(0, 0)", 0, Run.anew().then("text(0, 0)"));
        due.finds(Run.rich(), Due.SIZE, "text(1, -1)", "text(1, LOW)", "text(3, -1)");
    }

    @Says(of = 8, words = {"BAD", "SIZE"})
    static void textIsBadAheadOfSize(Due due) {
        due.refuses(Run.rich(), Due.BAD, "text(4, -1)", "text(-1, -1)", "text(LOW, LOW)", "text(HIGH, -1)");
    }

    // ---- Promise 9: put

    @Says(of = 9, words = {"Byte i of a TEXT is v", "what it was, and 1000 more"})
    static void putAtTheFirstAndTheLastPlace(Due due) {
        Run run = Run.anew().text(1, "abc");
        due.becomes(run, "put(1, 0, 100)", 1097, Run.anew().text(1, "dbc"));
        due.becomes(run, "put(1, 2, 100)", 1099, Run.anew().text(1, "abd"));
        due.becomes(run, "put(1, 2, 99)", 1099, run);
        due.becomes(Run.anew().then("text(3, 60)"), "put(3, 59, 32)", 1032, Run.anew().then("text(3, 60)"));
        due.is(Run.anew().then("text(3, 60)", "put(3, 59, 7)"), "put(3, 59, 8)", 1007);
    }

    @Says(of = 9, words = "v, cut to a byte (-128 .. 127)")
    static void putIsCutToAByte(Due due) {
        int[][] cut = {{127, 127}, {128, -128}, {-128, -128}, {-129, 127}, {255, -1}, {256, 0}, {-256, 0},
            {-1, -1}, {0, 0}, {1, 1}, {65 + 256, 65}, {65 - 256, 65}, {384, -128}, {Due.HIGH, -1}, {Due.LOW, 0},
            {Due.LOW + 127, 127}, {Due.LOW + 128, -128}};
        for (int[] pair : cut) {
            due.is(Run.anew().then("text(0, 1)", "put(0, 0, " + pair[0] + ")"), "put(0, 0, 0)", 1000 + pair[1]);
        }
    }

    @Says(of = 9, words = "what it was, and 1000 more")
    static void putTellsEachByte(Due due) {
        Played x = Run.anew().then("text(0, 1)").made();
        long was = 32;
        for (int v = -128; v <= 127; v++) {
            due.is(x, "put(0, 0, " + v + ")", 1000 + was);
            was = v;
        }
    }

    @Says(of = 9, words = "BAD")
    static void putInATextThatIsNone(Due due) {
        due.refusesOutside(Run.rich(), Due.BAD, "put(%, 0, 65)", 0, 3);
        due.refuses(Run.rich(), Due.BAD, "put(4, -1, 65)", "put(-1, 60, 65)");
    }

    @Says(of = 9, words = "NOTHING")
    static void putInATextThatIsMissing(Due due) {
        due.finds(Run.rich(), Due.NOTHING, "put(3, 0, 65)");
    }

    @Says(of = 9, words = "BEYOND")
    static void putAtAPlaceThatThereIsNot(Due due) {
        due.findsOutside(Run.rich(), Due.BEYOND, "put(1, %, 65)", 0, 4);
        due.findsOutside(Run.rich(), Due.BEYOND, "put(2, %, 65)", 0, -1);
        due.findsOutside(Run.anew().then("text(0, 60)"), Due.BEYOND, "put(0, %, 65)", 0, 59);
        due.finds(Run.rich().then("text(1, 1)"), Due.BEYOND, "put(1, 1, 65)");
    }

    @Says(of = 9, words = {"NOTHING", "BEYOND"})
    static void putFindsNothingAheadOfBeyond(Due due) {
        due.finds(Run.rich(), Due.NOTHING, "put(3, -1, 65)", "put(3, 60, 65)");
    }

    // ---- Promise 10: fault (what is a FAULT: LanguageTest)

    @Says(of = 10, words = {"A FAULT of a TEXT", "NONE: there is none"})
    static void faultLeavesAllAsItIs(Due due) {
        due.leaves(Run.rich(), "fault(0)", Due.NONE);
        due.leaves(Run.rich(), "fault(1)", 5);
        due.leaves(Run.rich(), "fault(2)", 0);
        due.leaves(Run.rich().text(3, "r7 y739"), "fault(3)", Due.NONE);
    }

    @Says(of = 10, words = "BAD")
    static void faultOfATextThatIsNone(Due due) {
        due.refusesOutside(Run.rich(), Due.BAD, "fault(%)", 0, 3);
    }

    @Says(of = 10, words = "NOTHING")
    static void faultOfATextThatIsMissing(Due due) {
        due.finds(Run.rich(), Due.NOTHING, "fault(3)");
        due.finds(Run.anew(), Due.NOTHING, "fault(0)");
    }

    // ---- Promise 11: cabinet

    private static final String SIX = "m010 o121 l232 d313 a424 y535";

    @Says(of = 11, words = {"A CABINET by a TEXT", "how many MINISTERS"})
    static void cabinetOf1To6Ministers(Due due) {
        for (int many = 1; many <= 6; many++) {
            Run run = Run.anew().text(many % 4, "r05 " + SIX.substring(0, 5 * many - 1));
            Played x = run.made();
            due.is(x, "cabinet(" + many % 4 + ")", many);
            due.is(x, "count(0)", many);
            due.is(x, "count(3)", (1 << many) - 1);
            due.is(x, "count(4)", 1 + 32);
            for (int i = 0; i < many; i++) {
                due.tells(x, "minister(" + i + ", 0)", 1, i);
                due.tells(x, "minister(" + i + ", 1)", 1, i);
                due.tells(x, "minister(" + i + ", 2)", 1, i % 3 + 1);
                due.tells(x, "minister(" + i + ", 3)", 1, i == 2 ? 12 : i);
                due.tells(x, "minister(" + i + ", 4)", 1, 1);
            }
            due.is(x, "minister(" + many + ", 0)", Due.BAD);
        }
    }

    private static final Run PLAYED = Run.rich().text(3, "r17 m610 y720");

    @Says(of = 11, words = "(anew: BAR 0")
    static void cabinetBeginsWithBar0(Due due) {
        Played x = PLAYED.made();
        due.is(x, "count(1)", 2);
        due.is(x, "count(5)", 1);
        due.is(x, "cabinet(3)", 2);
        due.is(x, "count(1)", 0);
        due.is(x, "count(5)", 0);
        due.is(x, "bar()", 1);
    }

    @Says(of = 11, words = "all IN")
    static void cabinetBeginsWithAllIn(Due due) {
        Played x = PLAYED.made();
        due.is(x, "count(3)", 4 + 16 + 32);
        due.is(x, "cabinet(0)", 6);
        due.is(x, "count(3)", 63);
        due.is(x, "cabinet(3)", 2);
        due.is(x, "count(3)", 3);
    }

    @Says(of = 11, words = "no DEEDS")
    static void cabinetBeginsWithoutDeeds(Due due) {
        Played x = PLAYED.made();
        due.is(x, "count(2)", 5);
        due.is(x, "cabinet(3)", 2);
        due.is(x, "count(2)", 0);
        due.is(x, "undo(0)", 0);
        due.is(x, "undo(1)", Due.BAD);
        due.is(x, "minister(0, 1)", 1);
        due.is(x, "asked()", 6);
        Run full = Run.of("r04 m010").times(40, "bar()");
        due.becomes(full, "cabinet(0)", 1, Run.of("r04 m010"));
    }

    @Says(of = 11, words = "kept CABINETS go)")
    static void cabinetLetsKeptOnesGo(Due due) {
        due.is(PLAYED, "count(10)", 2);
        due.is(PLAYED.then("cabinet(3)"), "count(10)", 0);
        due.finds(PLAYED.then("keep(2)", "cabinet(3)"), Due.NOTHING, "on(0)", "on(1)", "on(2)");
        due.finds(PLAYED.then("cabinet(0)"), Due.NOTHING, "on(0)", "on(1)");
    }

    @Says(of = 11, words = "A CABINET by a TEXT")
    static void cabinetLeavesRowsTextsAndWhatIsTold(Due due) {
        Run other = Run.of("r0 m010").text(0, "r0246 m010 o121 l732 d313 a414 y525").text(1, "r0m01")
            .then("text(2, 0)").text(3, "r17 m610 y720").row(0, 5, 6, 7).row(1).row(2, 1, 3).row(4, 21, 8)
            .then("cabinet(3)");
        due.becomes(PLAYED, "cabinet(3)", 2, other);
        due.becomes(PLAYED.then("cabinet(3)"), "cabinet(3)", 2, other);
    }

    @Says(of = 11, words = "A CABINET by a TEXT")
    static void cabinetStaysWhenItsTextChanges(Due due) {
        Run run = Run.of("r17 m610 y720");
        due.is(run.then("put(0, 0, 0)"), "count(4)", 2 + 128);
        due.is(run.then("text(0, 0)"), "count(0)", 2);
        due.tells(run.then("put(0, 5, 48)"), "minister(0, 1)", 1, 6);
        due.is(run.then("put(0, 5, 48)", "bar()"), "undo(0)", 1);
        due.tells(run.then("put(0, 5, 48)", "bar()", "undo(0)"), "minister(0, 1)", 1, 6);
    }

    @Says(of = 11, words = "BAD")
    static void cabinetByATextThatIsNone(Due due) {
        due.refusesOutside(Run.rich(), Due.BAD, "cabinet(%)", 0, 3);
    }

    @Says(of = 11, words = "NOTHING")
    static void cabinetByATextThatIsMissing(Due due) {
        due.finds(Run.rich(), Due.NOTHING, "cabinet(3)");
        due.finds(Run.anew(), Due.NOTHING, "cabinet(0)");
    }

    @Says(of = 11, words = "STATE: a FAULT")
    static void cabinetByATextWithAFault(Due due) {
        due.refuses(Run.rich(), Due.STATE, "cabinet(1)", "cabinet(2)");
        due.is(Run.rich().text(1, "r0m010"), "cabinet(1)", 1);
        // Read as far as to the FAULT, these hold other CHAIRS and MINISTERS than those that stay.
        String[] faults = {"r1357", "r1357 m777", "r1357 m710 m720 m73", "r7 y719 y729 y739 y", "r13578m010",
            "r7 " + SIX + " m010"};
        for (String fault : faults) {
            due.refuses(Run.rich().text(3, fault), Due.STATE, "cabinet(3)");
        }
    }

    @Says(of = 11, words = "(STATE behind NOTHING.)")
    static void cabinetFindsNothingAheadOfState(Due due) {
        due.finds(Run.anew().text(0, "r"), Due.NOTHING, "cabinet(1)", "cabinet(2)", "cabinet(3)");
        due.refuses(Run.anew().text(0, "r"), Due.STATE, "cabinet(0)");
    }
}
