/** Promises 12 and 13: MINISTERS and what their KINDS tell; what the Terms say of KINDS, PLACES, a BAR. */
public final class MinistersTest {
    /** One of each KIND, by their numbers. */
    private static final Run EACH = Run.of("r04 m010 o121 l232 d313 a424 y535");

    public static void main(String[] args) {
        Due.run(MinistersTest.class);
    }

    /** What minister(i, what) tells on an object that is made anew. */
    private static void tells(Due due, Run run, int i, int what, int want) {
        due.tells(run, "minister(" + i + ", " + what + ")", 1, want);
    }

    /** The PLACES behind one more BAR. */
    private static void bar(Due due, Run run, int... places) {
        Played x = run.then("bar()").made();
        for (int i = 0; i < places.length; i++) {
            due.tells(x, "minister(" + i + ", 1)", 1, places[i]);
        }
    }

    // ---- what the Terms say

    @Says(of = 0, words = {"0 MINISTER", "a MINISTER), 2", "a MINISTER), 3", "a MINISTER), 4", "; an OLD)",
        "; a DEAF)"})
    static void eachIsOfTheKindsItIsAKindOf(Due due) {
        boolean[][] is = new boolean[6][6];
        for (int kind = 0; kind <= 5; kind++) {
            is[kind][kind] = true;
        }
        is[4][1] = true;
        is[5][3] = true;
        for (int i = 0; i <= 5; i++) {
            for (int kind = 1; kind <= 5; kind++) {
                String call = "mark(" + i + ", " + kind + ")";
                if (is[i][kind]) {
                    due.is(call + " is refused", EACH.made().call(call) < 0 ? 1 : 0, 0);
                } else {
                    due.finds(EACH, Due.UNLIKE, call);
                }
            }
        }
    }

    @Says(of = 0, words = "PLACES 0 .. 7 are in a ring (behind 7 comes 0)")
    static void behind7Comes0(Due due) {
        bar(due, Run.of("r3 m610 m710 m620 m720 m530 m730"), 7, 0, 0, 1, 0, 2);
        bar(due, Run.of("r7 o710 o720 o730 o610 o620 o630"), 7, 0, 1, 7, 0, 1);
        due.is(Run.of("r3 m610"), "nudge(0)", 7);
        due.is(Run.of("r3 m710"), "nudge(0)", 0);
    }

    @Says(of = 0, words = "In a BAR each who is IN walks on by as many PLACES as PACE")
    static void barOfEachKind(Due due) {
        bar(due, Run.of("r7 m010 o010 l010 d010 a010 y010"), 1, 1, 1, 1, 1, 1);
        bar(due, Run.of("r7 m020 o020 l020 d020 a020 y020"), 2, 2, 2, 2, 2, 2);
        bar(due, Run.of("r7 m030 o030 l030 d030 a030 y030"), 3, 3, 3, 3, 3, 3);
    }

    @Says(of = 0, words = "In a BAR each who is IN walks on")
    static void barOfOneWhoIsOut(Due due) {
        Run run = Run.of("r0 m419 o428 l430 d416 a717 y529").then("stop()");
        due.is(run, "count(3)", 16 + 32);
        due.tells(run, "minister(3, 1)", 1, 5);
        bar(due, run, 4, 4, 4, 5, 0, 2);
        bar(due, run.then("bar()"), 4, 4, 4, 5, 0, 4);
    }

    @Says(of = 0, words = "an OLD one (ALLY, too) by 1 less where there is a CHAIR")
    static void barOfOneWhoHovers(Due due) {
        bar(due, Run.of("r0 m010 o010 l010 d010 a010 y010"), 1, 0, 1, 1, 0, 1);
        bar(due, Run.of("r0 m020 o020 l020 d020 a020 y020"), 2, 1, 2, 2, 1, 2);
        bar(due, Run.of("r0 m030 o030 l030 d030 a030 y030"), 3, 2, 3, 3, 2, 3);
        bar(due, Run.of("r34 o110 o210 o310 o410 o510"), 2, 3, 3, 4, 6);
        bar(due, Run.of("r34 a110 a210 a310 a410 a510"), 2, 3, 3, 4, 6);
        bar(due, Run.of("r34 o310 a410").then("take(3)"), 4, 4);
        bar(due, Run.of("r34 o310 a410").then("take(4)"), 3, 5);
    }

    // ---- Promise 12: minister

    @Says(of = 12, words = "Of a MINISTER: 0 the KIND")
    static void ministerTellsTheKind(Due due) {
        for (int i = 0; i <= 5; i++) {
            tells(due, EACH, i, 0, i);
        }
        tells(due, EACH.then("stop()", "bar()"), 5, 0, 5);
    }

    @Says(of = 12, words = "1 the PLACE")
    static void ministerTellsThePlace(Due due) {
        for (int i = 0; i <= 5; i++) {
            tells(due, EACH, i, 1, i);
        }
        tells(due, Run.of("r0 m710"), 0, 1, 7);
        tells(due, Run.of("r0 m710").then("bar()"), 0, 1, 0);
        tells(due, Run.of("r0 m710").then("stop()"), 0, 1, 0);
        tells(due, Run.of("r0 m710").then("nudge(0)"), 0, 1, 0);
        tells(due, Run.of("r1 m710").then("stop()"), 0, 1, 7);
    }

    @Says(of = 12, words = "2 PACE")
    static void ministerTellsThePace(Due due) {
        int[] paces = {1, 2, 3, 1, 2, 3};
        for (int i = 0; i <= 5; i++) {
            tells(due, EACH, i, 2, paces[i]);
        }
    }

    @Says(of = 12, words = "3 CUNNING (a LADY: 10 more)")
    static void ministerTellsCunning(Due due) {
        Run least = Run.of("r0 m010 o010 l010 d010 a010 y010");
        Run most = Run.of("r0 m019 o019 l019 d019 a019 y019");
        for (int i = 0; i <= 5; i++) {
            tells(due, least, i, 3, i == 2 ? 10 : 0);
            tells(due, most, i, 3, i == 2 ? 19 : 9);
        }
    }

    @Says(of = 12, words = "4 whether one is IN (1, 0)")
    static void ministerTellsWhoIsIn(Due due) {
        Run run = Run.of("r02 m010 m011 m219");
        for (int i = 0; i <= 2; i++) {
            tells(due, run, i, 4, 1);
        }
        tells(due, run.then("stop()"), 0, 4, 0);
        tells(due, run.then("stop()"), 1, 4, 1);
        tells(due, run.then("stop()"), 2, 4, 1);
        tells(due, run.then("stop()", "undo(0)"), 0, 4, 1);
    }

    @Says(of = 12, words = {"5 how far one would walk in the next BAR", "told by asked(): 1"})
    static void ministerTellsHowFar(Due due) {
        Run on = Run.of("r0 m010 o010 l010 d010 a010 y010");
        Run off = Run.of("r0 m110 o110 l110 d110 a110 y110");
        Run fast = Run.of("r0 m030 o030 l030 d030 a030 y030");
        for (int i = 0; i <= 5; i++) {
            boolean old = i == 1 || i == 4;
            tells(due, on, i, 5, old ? 0 : 1);
            tells(due, off, i, 5, 1);
            tells(due, fast, i, 5, old ? 2 : 3);
        }
        tells(due, Run.of("r01 o010").then("take(0)"), 0, 5, 1);
        tells(due, Run.of("r1 o010"), 0, 5, 1);
        tells(due, Run.of("r1 o010").then("bar()"), 0, 5, 0);
    }

    @Says(of = 12, words = "(one who is OUT, too, as if IN)")
    static void ministerTellsHowFarOneWhoIsOutWouldWalk(Due due) {
        Run run = Run.of("r0 y019 m110 o020 l130 d510 a028").then("stop()");
        due.is(run, "count(3)", 1 + 32);
        tells(due, run, 1, 5, 1);
        tells(due, run, 2, 5, 1);
        tells(due, run, 3, 5, 3);
        tells(due, run, 4, 5, 1);
        Run old = Run.of("r0 m019 o013 o022 o511").then("stop()");
        due.is(old, "count(3)", 1);
        tells(due, old, 1, 5, 0);
        tells(due, old, 2, 5, 1);
        tells(due, old, 3, 5, 1);
        Run more = Run.of("r04 l019 a419 m010 d520 y036").then("stop()");
        due.is(more, "count(3)", 1 + 2);
        tells(due, more, 2, 5, 1);
        tells(due, more, 3, 5, 2);
        tells(due, more, 4, 5, 3);
    }

    @Says(of = 12, words = "told by asked(): 1")
    static void ministerTellsAndLeavesAllElse(Due due) {
        due.tellsOnly(Run.rich(), "minister(0, 0)", 1, 0);
        due.tellsOnly(Run.rich(), "minister(5, 3)", 1, 5);
        due.tellsOnly(Run.rich(), "minister(2, 3)", 1, 12);
        due.tellsOnly(Run.rich(), "minister(5, 5)", 1, 2);
    }

    @Says(of = 12, words = "BAD")
    static void ministerThatIsNone(Due due) {
        due.refusesOutside(Run.rich(), Due.BAD, "minister(%, 0)", 0, 5);
        due.refusesOutside(Run.of("r0 m010"), Due.BAD, "minister(%, 1)", 0, 0);
        due.refusesOutside(Run.anew(), Due.BAD, "minister(%, 0)", 0, -1);
        due.refusesOutside(Run.rich(), Due.BAD, "minister(0, %)", 0, 5);
    }

    // ---- Promise 13: mark

    @Says(of = 13, words = {"What a MINISTER that IS of a KIND tells", "an OLD one (ALLY, too) how many CHAIRS are",
        "within 2 PLACES on (the own one, too)"})
    static void markOfAnOldOne(Due due) {
        for (int own = 0; own <= 7; own++) {
            for (int on = 0; on <= 7; on++) {
                Run run = Run.of("r" + (own + on) % 8 + " o" + own + "10 a" + own + "10");
                due.is(run, "mark(0, 1)", on <= 2 ? 1 : 0);
                due.is(run, "mark(1, 1)", on <= 2 ? 1 : 0);
            }
        }
        due.is(Run.of("r0123456 o310"), "mark(0, 1)", 3);
        due.is(Run.of("r0124567 o710"), "mark(0, 1)", 3);
        due.is(Run.of("r0124567 a310"), "mark(0, 1)", 2);
        due.is(Run.of("r345 o310").then("take(4)"), "mark(0, 1)", 2);
    }

    @Says(of = 13, words = "a LADY how many who are IN (others) have more CUNNING")
    static void markOfALady(Due due) {
        due.is(Run.of("r0 l010"), "mark(0, 2)", 0);
        due.is(Run.of("r0 l015 l016"), "mark(0, 2)", 1);
        due.is(Run.of("r0 l015 l015"), "mark(0, 2)", 0);
        due.is(Run.of("r0 l015 l014"), "mark(0, 2)", 0);
        due.is(Run.of("r0 l015 l014"), "mark(1, 2)", 1);
        due.is(Run.of("r0 l010 m019"), "mark(0, 2)", 0);
        due.is(Run.of("r0 l010 l011 l012 l013 l014 l015"), "mark(0, 2)", 5);
        due.is(Run.of("r0 l010 l011 l012 l013 l014 l015"), "mark(5, 2)", 0);
        Run out = Run.of("r0 l010 l411 l012").then("stop()");
        due.is(out, "count(3)", 4);
        due.is(out.then("undo(0)"), "mark(0, 2)", 2);
        due.is(out, "mark(0, 2)", 1);
        due.is(out, "mark(1, 2)", 1);
        due.is(out, "mark(2, 2)", 0);
    }

    @Says(of = 13, words = "a DEAF one (YOUNG, too) at which PLACE one would look for a CHAIR first")
    static void markOfADeafOne(Due due) {
        for (int own = 0; own <= 7; own++) {
            for (int pace = 1; pace <= 3; pace++) {
                // Where there is a CHAIR one walks no less.
                Run run = Run.of("r0" + (own == 0 ? "" : own) + " d" + own + pace + "0 y" + own + pace + "0");
                due.is(run, "mark(0, 3)", (own + pace) % 8);
                due.is(run, "mark(1, 3)", (own + pace) % 8);
            }
        }
    }

    @Says(of = 13, words = "(one who is OUT, too, as if IN)")
    static void markOfADeafOneWhoIsOut(Due due) {
        Run run = Run.of("r5 m519 d618 y537").then("stop()");
        due.is(run, "count(3)", 1);
        due.tells(run, "minister(1, 1)", 1, 7);
        due.is(run, "mark(1, 3)", 0);
        due.tells(run, "minister(2, 1)", 1, 0);
        due.is(run, "mark(2, 3)", 3);
    }

    @Says(of = 13, words = {"an ALLY how many (others) who are IN are within 2 PLACES on (the own one, too)"})
    static void markOfAnAlly(Due due) {
        for (int own = 0; own <= 7; own++) {
            for (int on = 0; on <= 7; on++) {
                Run run = Run.of("r0 a" + own + "10 m" + (own + on) % 8 + "10");
                due.is(run, "mark(0, 4)", on <= 2 ? 1 : 0);
            }
        }
        due.is(Run.of("r0 a310"), "mark(0, 4)", 0);
        due.is(Run.of("r0 a310 a310"), "mark(1, 4)", 1);
        due.is(Run.of("r0 m710 o010 a710 l110 d710 y110"), "mark(2, 4)", 5);
        Run out = Run.of("r0 a019 m018 m417").then("stop()");
        due.is(out.then("undo(0)"), "mark(0, 4)", 1);
        due.is(out, "count(3)", 1);
        due.is(out, "mark(0, 4)", 0);
    }

    @Says(of = 13, words = "a YOUNG one how many CHAIRS there are")
    static void markOfAYoungOne(Due due) {
        for (int many = 1; many <= 7; many++) {
            due.is(Run.of("r" + "1234567".substring(7 - many) + " y010"), "mark(0, 5)", many);
        }
        due.is(Run.of("r027 y010").then("take(7)"), "mark(0, 5)", 2);
        due.is(Run.of("r027 y010").then("take(7)", "take(0)"), "mark(0, 5)", 1);
    }

    @Says(of = 13, words = "What a MINISTER that IS of a KIND tells")
    static void markChangesNothing(Due due) {
        due.leaves(Run.rich(), "mark(1, 1)", 1);
        due.leaves(Run.rich(), "mark(2, 2)", 0);
        due.leaves(Run.rich(), "mark(3, 3)", 6);
        due.leaves(Run.rich(), "mark(4, 4)", 2);
        due.leaves(Run.rich(), "mark(5, 5)", 3);
    }

    @Says(of = 13, words = "BAD: also KIND 0")
    static void markOfAKindThatIsNone(Due due) {
        for (int i = 0; i <= 5; i++) {
            due.refuses(Run.rich(), Due.BAD, "mark(" + i + ", 0)");
            due.refusesOutside(Run.rich(), Due.BAD, "mark(" + i + ", %)", 1, 5);
        }
        due.refusesOutside(Run.rich(), Due.BAD, "mark(%, 1)", 0, 5);
        due.refusesOutside(Run.of("r0 o010"), Due.BAD, "mark(%, 1)", 0, 0);
        due.refusesOutside(Run.anew(), Due.BAD, "mark(%, 1)", 0, -1);
    }

    @Says(of = 13, words = "UNLIKE")
    static void markOfAnotherKind(Due due) {
        due.finds(Run.rich(), Due.UNLIKE, "mark(0, 1)", "mark(0, 5)", "mark(1, 4)", "mark(2, 1)", "mark(3, 5)",
            "mark(4, 2)", "mark(4, 3)", "mark(5, 1)", "mark(5, 2)");
    }

    @Says(of = 13, words = {"BAD", "UNLIKE"})
    static void markIsBadAheadOfUnlike(Due due) {
        due.refuses(Run.rich(), Due.BAD, "mark(6, 4)", "mark(-1, 2)", "mark(0, 0)", "mark(0, 6)", "mark(6, 6)");
    }
}
