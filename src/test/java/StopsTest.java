/** Promise 15, a STOP, and what the Terms say of it. */
public final class StopsTest {
    public static void main(String[] args) {
        Due.run(StopsTest.class);
    }

    /** A STOP behind these calls: who is IN then (bits), where each is. */
    private static void stop(Due due, Run run, int in, int... places) {
        Played x = run.made();
        due.is(x, "stop()", Integer.bitCount(in));
        due.is(x, "count(3)", in);
        for (int i = 0; i < places.length; i++) {
            due.tells(x, "minister(" + i + ", 1)", 1, places[i]);
        }
    }

    private static void stop(Due due, String signs, int in, int... places) {
        stop(due, Run.of(signs), in, places);
    }

    @Says(of = 0, words = "BAR 0 is at first, all are IN")
    static void atFirstAllAreIn(Due due) {
        Played x = Run.of("r0 m410 o410 l410 d410 a410 y410").made();
        due.is(x, "count(1)", 0);
        due.is(x, "count(3)", 63);
        due.is(Run.of("r0 m410"), "count(3)", 1);
    }

    @Says(of = 0, words = "A STOP: those who are IN look for a CHAIR")
    static void whoIsOutDoesNotLook(Due due) {
        Run run = Run.of("r0 m019 m018").then("stop()", "bar()");
        due.is(run, "count(3)", 1);
        // MINISTER 0 has walked on to 1; 1 is at 0, where there is a CHAIR that nobody sits on, and OUT.
        stop(due, run, 0, 1, 0);
    }

    @Says(of = 0, words = "look for a CHAIR one behind the other, the most CUNNING first")
    static void theMostCunningFirst(Due due) {
        stop(due, "r2 m215 m216", 2, 2, 2);
        stop(due, "r2 m216 m215", 1, 2, 2);
        stop(due, "r2 m110 m219", 2, 1, 2);
        stop(due, "r23 m214 m216 m215", 6, 2, 2, 3);
        stop(due, "r234567 y210 y219 y215 y217 y213 y211", 63, 2, 3, 5, 4, 6, 7);
    }

    @Says(of = 0, words = "(a LADY has 10 more")
    static void ladiesHave10More(Due due) {
        stop(due, "r2 m219 l210", 2, 2, 2);
        stop(due, "r2 l210 m219", 1, 2, 2);
        stop(due, "r2 l210 l211", 2, 2, 2);
        stop(due, "r2 l219 l218", 1, 2, 2);
        stop(due, "r2 o219 a218 d119 l210", 2 + 8, 2, 2, 2, 2);
    }

    @Says(of = 0, words = "of like ones by numbers)")
    static void ofLikeOnesByNumbers(Due due) {
        stop(due, "r2 m215 m215", 1, 2, 2);
        stop(due, "r2 l215 l215", 1, 2, 2);
        stop(due, "r2 o215 m215", 1, 2, 2);
        stop(due, "r2 m215 o215", 1, 2, 2);
        stop(due, "r23 m215 m215 m215", 3, 2, 3, 2);
        stop(due, "r234567 y213 y213 y213 y213 y213 y213", 63, 3, 4, 5, 6, 7, 2);
        stop(due, "r2 m214 m215 m215", 2, 2, 2, 2);
    }

    @Says(of = 0, words = "A DEAF one (YOUNG, too) walks on as in a BAR ahead of that")
    static void deafOnesWalkOnFirst(Due due) {
        for (int pace = 1; pace <= 3; pace++) {
            stop(due, "r" + (2 + pace) + " d2" + pace + "0", 1, 2 + pace);
            stop(due, "r" + (3 + pace) + " d2" + pace + "0", 1, 3 + pace);
            stop(due, "r2" + (4 + pace) + " d2" + pace + "0", 0, 2 + pace);
            stop(due, "r2" + (2 + pace) + " y2" + pace + "0", 1, 2 + pace);
        }
        stop(due, "r0 d710", 1, 0);
        stop(due, "r2 d730", 1, 2);
        // The others do not.
        stop(due, "r23 m210 ", 1, 2);
        stop(due, "r23 o220", 1, 2);
        stop(due, "r23 l230", 1, 2);
        stop(due, "r23 a230", 1, 2);
        // A DEAF one walks on from where another one sits, when one's turn is.
        stop(due, "r3 m319 d210", 1, 3, 3);
    }

    @Says(of = 0, words = "One takes the first CHAIR, from the own PLACE on")
    static void theFirstChairFromTheOwnPlaceOn(Due due) {
        stop(due, "r23 m210", 1, 2);
        stop(due, "r34 o210", 1, 3);
        stop(due, "r24 o210", 1, 2);
        stop(due, "r0147 y210", 1, 4);
        stop(due, "r12 m210", 1, 2);
        stop(due, "r1 m210", 0, 2);
        stop(due, "r07 m710", 1, 7);
        stop(due, "r01 o710", 1, 0);
    }

    @Says(of = 0, words = "on which nobody sits yet")
    static void onWhichNobodySitsYet(Due due) {
        stop(due, "r23 m219 m218", 3, 2, 3);
        stop(due, "r23 m319 m218", 3, 3, 2);
        stop(due, "r23 m219 m318", 3, 2, 3);
        stop(due, "r2 m219 m118", 1, 2, 1);
        stop(due, "r234 o219 o218 o217 o216", 7, 2, 3, 4, 2);
        // One on whom an ALLY sits keeps the CHAIR, and nobody else finds it free.
        stop(due, "r2 m219 a218 m211", 3, 2, 2, 2);
    }

    @Says(of = 0, words = "(of this STOP)")
    static void anEarlierStopTakesNoChair(Due due) {
        Run run = Run.of("r2 m219 m218").then("stop()");
        stop(due, run, 1, 2, 2);
        stop(due, run.then("stop()"), 1, 2, 2);
        Run walked = Run.of("r26 m219 m618").then("stop()").times(4, "bar()");
        stop(due, walked, 3, 6, 2);
        due.tells(walked, "sits(0)", 3, 4 + 64);
        due.tells(Run.of("r2 m210").then("stop()"), "sits(0)", 1, 4);
    }

    @Says(of = 0, words = "by 1 PLACE on at most")
    static void by1PlaceOnAtMost(Due due) {
        for (String kind : new String[] {"m", "l"}) {
            stop(due, "r2 " + kind + "210", 1, 2);
            stop(due, "r3 " + kind + "210", 1, 3);
            stop(due, "r4 " + kind + "210", 0, 2);
            stop(due, "r1 " + kind + "210", 0, 2);
            stop(due, "r0 " + kind + "710", 1, 0);
            stop(due, "r1 " + kind + "710", 0, 7);
        }
        stop(due, "r2 d110", 1, 2);
        stop(due, "r3 d110", 1, 3);
        stop(due, "r4 d110", 0, 2);
        stop(due, "r1 d110", 0, 2);
    }

    @Says(of = 0, words = "an OLD one (ALLY, too) by 2")
    static void oldOnesBy2(Due due) {
        for (String kind : new String[] {"o", "a"}) {
            stop(due, "r2 " + kind + "210", 1, 2);
            stop(due, "r3 " + kind + "210", 1, 3);
            stop(due, "r4 " + kind + "210", 1, 4);
            stop(due, "r5 " + kind + "210", 0, 2);
            stop(due, "r1 " + kind + "210", 0, 2);
            stop(due, "r0 " + kind + "610", 1, 0);
            stop(due, "r1 " + kind + "710", 1, 1);
            stop(due, "r1 " + kind + "610", 0, 6);
        }
    }

    @Says(of = 0, words = "a YOUNG one by 7")
    static void youngOnesBy7(Due due) {
        for (int chair = 0; chair <= 7; chair++) {
            // By 7 on one comes to each CHAIR, at last to that behind the own PLACE.
            stop(due, "r" + chair + " y210", 1, chair);
        }
        stop(due, "r2 y219 y218", 1, 2, 3);
        stop(due, "r23 y219 y218", 3, 3, 2);
    }

    @Says(of = 0, words = {"An ALLY for whom there is none so takes the first one by 2 on which somebody sits"})
    static void alliesSitOnOthers(Due due) {
        stop(due, "r2 m219 a210", 3, 2, 2);
        stop(due, "r3 m319 a210", 3, 3, 3);
        stop(due, "r4 m419 a210", 3, 4, 4);
        stop(due, "r5 m519 a210", 1, 5, 2);
        stop(due, "r1 m119 a210", 1, 1, 2);
        stop(due, "r0 m019 a610", 3, 0, 0);
        stop(due, "r0 m019 a510", 1, 0, 5);
        stop(due, "r2 m219 a211 a210", 7, 2, 2, 2);
        // The first of some on which somebody sits, from the own PLACE on.
        stop(due, "r234 m219 m319 m419 a210", 15, 2, 3, 4, 2);
        stop(due, "r34 m319 m419 a210", 7, 3, 4, 3);
        stop(due, "r24 m219 m419 a310", 7, 2, 4, 4);
    }

    @Says(of = 0, words = "for whom there is none so")
    static void alliesTakeAFreeChairFirst(Due due) {
        stop(due, "r24 m219 a210", 3, 2, 4);
        stop(due, "r23 m219 a210", 3, 2, 3);
        stop(due, "r25 m219 a210", 3, 2, 2);
        stop(due, "r2 m210 a219", 2, 2, 2);
    }

    @Says(of = 0, words = "An ALLY for whom there is none so")
    static void othersSitOnNobody(Due due) {
        for (String other : new String[] {"m210", "o210", "l210", "d110", "y110"}) {
            stop(due, "r2 l219 " + other, 1, 2, 2);
        }
    }

    @Says(of = 0, words = "One is at the PLACE of that then")
    static void oneIsAtThePlaceOfTheChair(Due due) {
        stop(due, "r024 m710 o210 y510", 7, 0, 2, 4);
        Run run = Run.of("r03 m710 o110").then("stop()");
        due.tells(run, "minister(0, 1)", 1, 0);
        due.tells(run, "minister(1, 1)", 1, 3);
        due.tells(run.then("bar()"), "minister(0, 1)", 1, 1);
        due.tells(run.then("bar()"), "minister(1, 1)", 1, 3);
    }

    @Says(of = 0, words = "who finds none is OUT for good")
    static void outForGood(Due due) {
        Run run = Run.of("r04 m419 m418 m019").then("stop()");
        due.is(run, "count(3)", 1 + 4);
        // Both who are IN walk off; still MINISTER 1, at 4, takes no CHAIR.
        stop(due, run.then("bar()", "bar()"), 0, 6, 4, 2);
        stop(due, run.then("nudge(0)", "nudge(0)"), 4, 6, 4, 0);
        due.is(run.then("bar()", "stop()", "bar()"), "count(3)", 0);
        due.refuses(run, Due.STATE, "nudge(1)", "where(1, 0)");
    }

    @Says(of = 0, words = {"at the PLACE where one was (the DEAF: came to)"})
    static void whoIsOutStaysAtThePlace(Due due) {
        stop(due, "r0 m210", 0, 2);
        stop(due, "r0 o310", 0, 3);
        stop(due, "r0 l430", 0, 4);
        stop(due, "r0 a520", 0, 5);
        stop(due, "r0 d110", 0, 2);
        stop(due, "r0 d520", 1, 0);
        stop(due, "r0 d630", 0, 1);
        stop(due, "r4 l419 y130", 1, 4, 4);
        stop(due, "r4 l419 y610", 1, 4, 7);
        // Once OUT a DEAF one comes no further.
        stop(due, Run.of("r0 d110").then("stop()"), 0, 2);
    }

    // ---- Promise 15: stop

    @Says(of = 15, words = "A STOP: how many are IN then")
    static void stopTellsHowManyAreIn(Due due) {
        due.is(Run.of("r0 m410"), "stop()", 0);
        due.is(Run.of("r4 m410"), "stop()", 1);
        due.is(Run.of("r012345 m010 m110 m210 m310 m410 m510"), "stop()", 6);
        due.is(Run.of("r0 m410").then("stop()"), "stop()", 0);
        Played x = Run.of("r04 m010 m011 m419").made();
        due.is(x, "stop()", 2);
        due.is(x, "count(1)", 0);
        due.is(x, "count(2)", 1);
        due.is(x, "count(4)", 1 + 16);
        due.is(x, "count(5)", 1);
        due.is(x, "stop()", 2);
        due.is(x, "count(2)", 2);
        due.is(x, "count(5)", 2);
        due.is(x, "asked()", 0);
    }

    @Says(of = 15, words = "STATE: no MINISTERS")
    static void stopWithoutMinisters(Due due) {
        due.refuses(Run.anew(), Due.STATE, "stop()");
        due.refuses(Run.anew().row(0, 5).text(1, "r0m010"), Due.STATE, "stop()");
        due.is(Run.of("r0 m010"), "stop()", 1);
        // Without anybody who is IN there still are MINISTERS.
        due.is(Run.of("r0 m410").then("stop()"), "stop()", 0);
    }

    @Says(of = 15, words = "FULL")
    static void stopThatIsOneTooMany(Due due) {
        Run run = Run.of("r04 m010").times(39, "bar()");
        Played x = run.made();
        due.is(x, "stop()", 1);
        due.is(x, "count(2)", 40);
        due.refuses(run.then("stop()"), Due.FULL, "stop()");
        due.refuses(run.then("bar()"), Due.FULL, "stop()");
        due.is(run.then("bar()", "undo(39)"), "stop()", 1);
    }

    @Says(of = 15, words = "(FULL last.)")
    static void stopIsFullLast(Due due) {
        due.refuses(Run.anew(), Due.STATE, "stop()");
        due.refuses(Run.of("r0 m410").times(40, "stop()"), Due.FULL, "stop()");
    }
}
