/** Promises 14 and 16 to 20: DEEDS, undone, kept, gone on from (15, a STOP: StopsTest). */
public final class DeedsTest {
    private static final String ALL = "r01346 m023 o115 l229 d437 a114 y630";
    private static final String[] SOME = {"bar()", "nudge(0)", "bar()", "stop()", "take(3)", "bar()", "stop()",
        "take(0)", "bar()", "nudge(2)", "stop()", "take(4)"};

    public static void main(String[] args) {
        Due.run(DeedsTest.class);
    }

    /** All of a CABINET behind the first n of SOME DEEDS. */
    private static Run some(int n) {
        Run run = Run.of(ALL);
        for (int deed = 0; deed < n; deed++) {
            run = run.then(SOME[deed]);
        }
        return run;
    }

    // ---- what the Terms say

    @Says(of = 0, words = {"What is done: a BAR, a STOP, a CHAIR taken away", "a NUDGE",
        "These are DEEDS 0, 1, .."})
    static void whatIsDoneAreDeeds(Due due) {
        for (int n = 0; n <= SOME.length; n++) {
            due.is(some(n), "count(2)", n);
        }
    }

    @Says(of = 0, words = "(not the last one)")
    static void theLastChairStays(Due due) {
        due.is(Run.of("r25 m010"), "take(5)", 1);
        due.refuses(Run.of("r25 m010").then("take(5)"), Due.STATE, "take(2)");
    }

    @Says(of = 0, words = "(one who is IN comes 1 PLACE on)")
    static void aNudgeIsBy1Place(Due due) {
        for (int place = 0; place <= 7; place++) {
            due.is(Run.of("r0 m" + place + "30"), "nudge(0)", (place + 1) % 8);
        }
    }

    @Says(of = 0, words = "(40 at most)")
    static void deedsAre40AtMost(Due due) {
        Run run = Run.of("r01 m010 o110 y220").times(39, "bar()");
        due.is(run, "bar()", 40);
        due.refuses(run.then("bar()"), Due.FULL, "bar()", "stop()", "take(0)", "nudge(0)", "lots(1, 1)");
        due.is(run.then("bar()"), "count(2)", 40);
        due.is(run.then("bar()"), "keep(0)", 40);
        due.is(run.then("bar()"), "undo(0)", 40);
    }

    // ---- Promise 14: bar

    @Says(of = 14, words = "A BAR: the number of BARS then")
    static void barTellsTheNumberOfBars(Due due) {
        Played x = Run.of("r06 m630 o620 l610 d610 a420 y530").made();
        due.is(x, "bar()", 1);
        due.is(x, "stop()", 2);
        due.is(x, "bar()", 2);
        due.is(x, "count(1)", 2);
        due.is(x, "count(2)", 3);
        due.is(x, "count(5)", 1);
        due.is(x, "undo(1)", 2);
        due.is(x, "bar()", 2);
        due.is(x, "asked()", 0);
        due.is(Run.of("r0 m410").then("stop()"), "bar()", 1);
    }

    @Says(of = 14, words = "STATE: no MINISTERS")
    static void barWithoutMinisters(Due due) {
        due.refuses(Run.anew(), Due.STATE, "bar()");
        due.refuses(Run.anew().row(0, 5).text(1, "r0m010"), Due.STATE, "bar()");
        due.is(Run.of("r0 m010"), "bar()", 1);
    }

    @Says(of = 14, words = "FULL: 40 DEEDS")
    static void barThatIsOneTooMany(Due due) {
        Run run = Run.of("r04 m010").times(38, "bar()");
        due.is(run, "bar()", 39);
        due.is(run.then("bar()"), "bar()", 40);
        due.refuses(run.then("bar()", "bar()"), Due.FULL, "bar()");
        due.refuses(run.then("stop()", "stop()"), Due.FULL, "bar()");
        due.is(run.then("bar()", "bar()", "undo(39)"), "bar()", 40);
        due.is(run.then("bar()", "bar()", "cabinet(0)"), "bar()", 1);
    }

    @Says(of = 14, words = "(FULL last.)")
    static void barIsFullLast(Due due) {
        due.refuses(Run.anew(), Due.STATE, "bar()");
        due.refuses(Run.of("r0 m410").times(40, "stop()"), Due.FULL, "bar()");
    }

    // ---- Promise 16: take

    @Says(of = 16, words = "The CHAIR at a PLACE is taken away: how many there are then")
    static void takeTellsHowManyThereAre(Due due) {
        int[] order = {7, 0, 5, 1, 4, 3};
        Played x = Run.of("r0123457 m010").made();
        int chairs = 255 - 64;
        for (int k = 0; k < order.length; k++) {
            due.is(x, "take(" + order[k] + ")", 6 - k);
            chairs -= 1 << order[k];
            due.is(x, "count(4)", chairs);
        }
        due.is(x, "count(1)", 0);
        due.is(x, "count(2)", 6);
        due.is(x, "count(5)", 0);
        due.is(x, "undo(1)", 5);
        due.is(x, "count(4)", 127 - 64);
        due.is(x, "where(0, 0)", 0);
        due.is(x, "asked()", 0);
    }

    @Says(of = 16, words = "BAD")
    static void takeAtAPlaceThatIsNone(Due due) {
        due.is(Run.of("r07 m010"), "take(0)", 1);
        due.is(Run.of("r07 m010"), "take(7)", 1);
        due.refusesOutside(Run.rich(), Due.BAD, "take(%)", 0, 7);
        due.refusesOutside(Run.anew(), Due.BAD, "take(%)", 0, 7);
        due.refusesOutside(Run.of("r0 m010"), Due.BAD, "take(%)", 0, 7);
    }

    @Says(of = 16, words = "STATE: there is none")
    static void takeAChairThatThereIsNot(Due due) {
        due.refuses(Run.rich(), Due.STATE, "take(1)", "take(3)", "take(5)", "take(6)", "take(7)");
        due.refuses(Run.of("r25 m010"), Due.STATE, "take(0)", "take(1)", "take(3)", "take(4)", "take(6)", "take(7)");
        due.refuses(Run.anew(), Due.STATE, "take(0)", "take(7)");
    }

    @Says(of = 16, words = "or it is the last one")
    static void takeTheLastChair(Due due) {
        for (int place = 0; place <= 7; place++) {
            due.refuses(Run.of("r" + place + " m010"), Due.STATE, "take(" + place + ")");
        }
        due.is(Run.of("r257 m010"), "take(5)", 2);
        due.is(Run.of("r257 m010").then("take(5)"), "take(7)", 1);
        due.refuses(Run.of("r257 m010").then("take(5)", "take(7)"), Due.STATE, "take(2)");
        due.is(Run.of("r257 m010").then("take(5)", "take(7)", "undo(1)"), "take(2)", 1);
    }

    @Says(of = 16, words = "FULL")
    static void takeThatIsOneTooMany(Due due) {
        Run run = Run.of("r04 m010").times(39, "bar()");
        due.is(run, "take(0)", 1);
        due.is(run.then("take(0)"), "count(2)", 40);
        due.refuses(run.then("bar()"), Due.FULL, "take(0)", "take(4)");
    }

    @Says(of = 16, words = "(FULL last.)")
    static void takeIsFullLast(Due due) {
        Run full = Run.of("r04 m010").times(40, "bar()");
        due.refuses(full, Due.STATE, "take(1)", "take(7)");
        due.refuses(full, Due.BAD, "take(8)", "take(-1)");
        due.refuses(Run.of("r4 m010").times(40, "bar()"), Due.STATE, "take(4)");
        due.refuses(full, Due.FULL, "take(4)");
    }

    // ---- Promise 17: nudge

    @Says(of = 17, words = "A NUDGE: the PLACE then")
    static void nudgeTellsThePlace(Due due) {
        Played x = Run.of("r07 m630 o720 y010").made();
        due.is(x, "nudge(0)", 7);
        due.is(x, "nudge(0)", 0);
        due.is(x, "nudge(1)", 0);
        due.is(x, "nudge(2)", 1);
        due.is(x, "count(1)", 0);
        due.is(x, "count(2)", 4);
        due.is(x, "count(5)", 0);
        due.tells(x, "minister(0, 1)", 1, 0);
        due.tells(x, "minister(1, 1)", 1, 0);
        due.tells(x, "minister(2, 1)", 1, 1);
    }

    @Says(of = 17, words = "BAD")
    static void nudgeOfAMinisterWhoIsNone(Due due) {
        due.refusesOutside(Run.rich(), Due.BAD, "nudge(%)", 0, 5);
        due.refusesOutside(Run.of("r0 m010 m010"), Due.BAD, "nudge(%)", 0, 1);
        due.refusesOutside(Run.anew(), Due.BAD, "nudge(%)", 0, -1);
        due.is(Run.of("r0 m010 m310"), "nudge(1)", 4);
    }

    @Says(of = 17, words = "STATE: one is OUT")
    static void nudgeOfOneWhoIsOut(Due due) {
        due.refuses(Run.rich(), Due.STATE, "nudge(0)", "nudge(1)", "nudge(3)");
        due.is(Run.rich(), "nudge(2)", 6);
        due.is(Run.rich(), "nudge(5)", 7);
        due.is(Run.rich().then("undo(0)"), "nudge(0)", 1);
    }

    @Says(of = 17, words = "FULL")
    static void nudgeThatIsOneTooMany(Due due) {
        Run run = Run.of("r04 m010").times(39, "bar()");
        due.is(run, "nudge(0)", 0);
        due.is(run.then("nudge(0)"), "count(2)", 40);
        due.refuses(run.then("bar()"), Due.FULL, "nudge(0)");
    }

    @Says(of = 17, words = "(FULL last.)")
    static void nudgeIsFullLast(Due due) {
        Run full = Run.of("r0 m010 m410").then("stop()").times(39, "bar()");
        due.refuses(full, Due.STATE, "nudge(1)");
        due.refuses(full, Due.BAD, "nudge(2)", "nudge(-1)");
        due.refuses(full, Due.FULL, "nudge(0)");
    }

    // ---- Promise 18: undo

    @Says(of = 18, words = {"DEEDS from number n on", "are undone: how many"})
    static void undoSomeDeeds(Due due) {
        for (int n = 0; n <= SOME.length; n++) {
            due.becomes(some(SOME.length), "undo(" + n + ")", SOME.length - n, some(n));
        }
        due.becomes(some(6).then("undo(3)", "bar()"), "undo(3)", 1, some(3));
        due.becomes(some(6).then("keep(1)"), "undo(3)", 3, some(6).then("keep(1)", "undo(3)"));
        due.is(some(6).then("keep(1)", "undo(3)"), "on(1)", 6);
    }

    @Says(of = 18, words = "(0 to how many there are: none then)")
    static void undo0ToHowManyThereAre(Due due) {
        due.becomes(some(5), "undo(0)", 5, some(0));
        due.becomes(some(5), "undo(4)", 1, some(4));
        due.becomes(some(5), "undo(5)", 0, some(5));
        due.leaves(Run.rich(), "undo(5)", 0);
        due.leaves(Run.of("r0 m010"), "undo(0)", 0);
        due.leaves(Run.anew(), "undo(0)", 0);
        due.is(Run.of("r0 m010").times(40, "bar()"), "undo(40)", 0);
        due.is(Run.of("r0 m010").times(40, "bar()"), "undo(0)", 40);
    }

    @Says(of = 18, words = "BAD")
    static void undoOfANumberThatIsNone(Due due) {
        due.refusesOutside(Run.rich(), Due.BAD, "undo(%)", 0, 5);
        due.refusesOutside(Run.of("r0 m010"), Due.BAD, "undo(%)", 0, 0);
        due.refusesOutside(Run.anew(), Due.BAD, "undo(%)", 0, 0);
        due.refusesOutside(Run.of("r0 m010").times(40, "bar()"), Due.BAD, "undo(%)", 0, 40);
        due.refuses(some(5).then("undo(3)"), Due.BAD, "undo(4)", "undo(5)");
    }

    // ---- Promise 19: keep

    @Says(of = 19, words = {"The CABINET (as it is, DEEDS) is kept in a place", "how many DEEDS"})
    static void keepSomeDeeds(Due due) {
        for (int n : new int[] {0, 1, 5, 12}) {
            due.is(some(n), "keep(1)", n);
            due.is(some(n).then("keep(1)"), "count(2)", n);
            due.is(some(n).then("keep(1)"), "count(10)", 1);
            due.becomes(some(n).then("keep(1)", "bar()", "undo(0)"), "on(1)", n, some(n).then("keep(1)"));
        }
        due.is(Run.of("r0 m010").times(40, "bar()"), "keep(0)", 40);
    }

    @Says(of = 19, words = "is kept in a place (0 .. 2)")
    static void keepInEachPlace(Due due) {
        Run run = some(2).then("keep(0)", "bar()", "keep(1)", "bar()", "keep(2)", "undo(0)");
        due.is(run, "count(10)", 3);
        for (int k = 0; k <= 2; k++) {
            due.is(run, "on(" + k + ")", 2 + k);
        }
        due.becomes(run.then("on(1)"), "keep(0)", 3,
            some(2).then("bar()", "keep(0)", "keep(1)", "bar()", "keep(2)", "undo(3)"));
        due.refusesOutside(Run.rich(), Due.BAD, "keep(%)", 0, 2);
    }

    @Says(of = 19, words = "(as it is, DEEDS)")
    static void keepDifferentDeeds(Due due) {
        Run run = Run.of("r046 m010 o210").then("nudge(0)", "keep(0)", "undo(0)", "bar()", "bar()", "keep(1)",
            "undo(0)", "take(4)", "stop()", "bar()", "keep(2)", "undo(0)");
        due.becomes(run, "on(0)", 1, run.then("nudge(0)"));
        due.becomes(run, "on(1)", 2, run.then("bar()", "bar()"));
        due.becomes(run, "on(2)", 3, run.then("take(4)", "stop()", "bar()"));
        Run anew = run.then("nudge(1)", "keep(1)", "undo(0)");
        due.becomes(anew, "on(0)", 1, anew.then("nudge(0)"));
        due.becomes(anew, "on(1)", 1, anew.then("nudge(1)"));
        due.becomes(anew, "on(2)", 3, anew.then("take(4)", "stop()", "bar()"));
        due.is(run.then("on(0)"), "count(1)", 0);
        due.tells(run.then("on(0)"), "minister(0, 1)", 1, 1);
        due.is(run.then("on(1)"), "count(1)", 2);
        due.tells(run.then("on(1)"), "minister(0, 1)", 1, 2);
        due.is(run.then("on(2)"), "count(4)", 1 + 64);
    }

    @Says(of = 19, words = "BAD")
    static void keepIsBadAheadOfState(Due due) {
        due.refusesOutside(Run.anew(), Due.BAD, "keep(%)", 0, 2);
    }

    @Says(of = 19, words = "STATE: no MINISTERS")
    static void keepWithoutMinisters(Due due) {
        due.refuses(Run.anew(), Due.STATE, "keep(0)", "keep(1)", "keep(2)");
        due.is(Run.of("r0 m010"), "keep(2)", 0);
    }

    // ---- Promise 20: on

    @Says(of = 20, words = {"The CABINET is as it was kept", "how many DEEDS"})
    static void onAsItWasKept(Due due) {
        for (int n : new int[] {0, 1, 5, 12}) {
            Run run = some(n).then("keep(0)", "undo(0)").times(3, "nudge(0)");
            due.becomes(run, "on(0)", n, some(n).then("keep(0)"));
            due.becomes(run.then("on(0)"), "on(0)", n, some(n).then("keep(0)"));
        }
        due.becomes(some(7).then("keep(2)", "undo(4)", "nudge(0)"), "on(2)", 7, some(7).then("keep(2)"));
        Run full = Run.of("r0 m010").times(40, "bar()").then("keep(1)", "undo(0)");
        due.is(full, "on(1)", 40);
        due.refuses(full.then("on(1)"), Due.FULL, "bar()");
        due.leaves(Run.rich().then("keep(2)"), "on(2)", 5);
    }

    @Says(of = 20, words = "The CABINET is as it was kept")
    static void onLeavesWhatIsKept(Due due) {
        Run run = some(5).then("keep(0)", "bar()", "keep(1)");
        due.becomes(run.then("on(0)", "stop()", "stop()"), "on(0)", 5, run.then("undo(5)"));
        due.becomes(run.then("on(0)", "undo(0)"), "on(1)", 6, run);
    }

    @Says(of = 20, words = "BAD")
    static void onOfAPlaceThatIsNone(Due due) {
        due.refusesOutside(Run.rich(), Due.BAD, "on(%)", 0, 2);
        due.refusesOutside(Run.anew(), Due.BAD, "on(%)", 0, 2);
    }

    @Says(of = 20, words = "NOTHING")
    static void onOfAPlaceWhereNothingIsKept(Due due) {
        due.finds(Run.rich(), Due.NOTHING, "on(2)");
        due.finds(Run.of("r0 m010"), Due.NOTHING, "on(0)", "on(1)", "on(2)");
        due.finds(Run.anew(), Due.NOTHING, "on(0)", "on(1)", "on(2)");
        due.finds(Run.rich().then("cabinet(0)"), Due.NOTHING, "on(0)", "on(1)");
        due.is(Run.rich(), "on(0)", 1);
    }
}
