import java.util.ArrayList;
import java.util.List;

/** Promises 36 to 42: what is told. */
public final class ToldTest {
    private static final Run ONE = Run.of("r4 m210");

    public static void main(String[] args) {
        Due.run(ToldTest.class);
    }

    // ---- Promise 36: asked

    @Says(of = 36, words = "0 before")
    static void askedBefore(Due due) {
        due.is(Run.anew(), "asked()", 0);
        due.is(Run.of("r0 m410").then("row(0, 2)", "bar()", "where(0, 3)", "mid(1, 1)"), "asked()", 0);
    }

    @Says(of = 36, words = {"What the latest lay(), at(), mean(), minister(), sits(), remove(), tune()", "told"})
    static void askedOfTheLatest(Due due) {
        Played x = Run.of("r024 m310 o621").row(0, 4, 9, 4).made();
        due.tells(x, "at(0, 1)", 1, 9);
        due.tells(x, "tune(0)", 2, 9);
        due.tells(x, "mean(0)", 1, 5);
        due.tells(x, "minister(1, 1)", 1, 6);
        due.tells(x, "sits(0)", 3, 16 + 1);
        due.tells(x, "remove(1, 0)", 1, 1);
        due.tells(x, "lay(0, 1, 2)", 1, 9);
        due.is(x, "asked()", 9);
    }

    @Says(of = 36, words = "that was not refused")
    static void askedStaysWhenRefused(Due due) {
        due.is(Run.rich(), "asked()", 6);
        String[] calls = {"lay(6, 0, 9)", "lay(3, 0, 9)", "lay(0, 3, 9)", "at(6, 0)", "at(3, 0)", "at(0, 3)",
            "mean(6)", "mean(3)", "mean(1)", "minister(6, 0)", "minister(0, 6)", "sits(21)", "sits(-1)",
            "remove(6, 0)", "remove(2, 21)", "remove(0, 0)", "tune(6)", "tune(3)", "tune(1)"};
        for (String call : calls) {
            due.is(call + " is refused", Run.rich().made().call(call) < 0 ? 1 : 0, 1);
            due.is(Run.rich().then(call), "asked()", 6);
        }
        due.is(Run.anew().row(0, 7).then("at(0, 0)", "sits(0)"), "asked()", 7);
    }

    @Says(of = 36, words = "(nor NONE)")
    static void askedStaysWithNone(Due due) {
        Run run = Run.rich().row(0, 1, 2, 3, 4, 5, 6, 7, 8, 9, 10, 11).then("at(0, 4)");
        due.is(run, "tune(0)", Due.NONE);
        due.is(run.then("tune(0)"), "asked()", 5);
    }

    @Says(of = 36, words = "What the latest lay(), at(), mean(), minister(), sits(), remove(), tune()")
    static void askedStaysWithOtherCalls(Due due) {
        String[] calls = {"row(3, 2)", "tear(0)", "copy(0, 0, 0, 1, 2)", "text(3, 1)", "put(0, 0, 114)", "fault(0)",
            "cabinet(0)", "mark(4, 1)", "bar()", "stop()", "take(0)", "nudge(2)", "undo(0)", "keep(0)", "on(0)",
            "where(2, 5)", "bars(2)", "when(4)", "spare(2, 1)", "reign(2, 0, 3)", "kinds(2, 1)", "paces(2, 1)",
            "places(2, 1)", "bribe(2, 1)", "odds(2, 1, 6)", "mid(1, 6)", "lots(3, 5)", "asked()", "upper()",
            "lower()", "count(4)", "finding()", "findings(1)", "digest()"};
        for (String call : calls) {
            due.is(call + " is refused", Run.rich().made().call(call) == Due.BAD ? 1 : 0, 0);
            due.is(Run.rich().then(call), "asked()", 6);
        }
    }

    // ---- Promises 37, 38: upper, lower

    @Says(of = 37, words = "0 before")
    static void upperBefore(Due due) {
        due.is(Run.anew(), "upper()", 0);
        due.is(ONE.then("odds(1, 0, 0)", "odds(0, 7, 0)", "mid(0, 13)"), "upper()", 0);
    }

    @Says(of = 38, words = "1 before")
    static void lowerBefore(Due due) {
        due.is(Run.anew(), "lower()", 1);
        due.is(ONE.then("odds(1, 0, 0)", "odds(0, 7, 0)", "mid(0, 13)"), "lower()", 1);
    }

    @Says(of = 37, words = "The upper number that was told last")
    static void upperToldLast(Due due) {
        Run run = ONE.then("odds(0, 1, 5)");
        due.is(run, "upper()", 7);
        due.is(run.then("odds(0, 1, 4)"), "upper()", 2);
        due.is(run.then("mid(0, 4)"), "upper()", 0);
        due.is(run.then("odds(0, 1, 13)", "odds(0, 7, 1)", "odds(1, 1, 1)", "mid(7, 1)"), "upper()", 7);
        due.is(run.then("cabinet(0)", "bar()", "stop()", "sits(0)", "undo(0)"), "upper()", 7);
    }

    @Says(of = 38, words = "Its lower number")
    static void lowerToldLast(Due due) {
        Run run = ONE.then("odds(0, 1, 5)");
        due.is(run, "lower()", 12);
        due.is(run.then("odds(0, 1, 4)"), "lower()", 3);
        due.is(run.then("mid(0, 4)"), "lower()", 1);
        due.is(run.then("odds(0, 1, 13)", "odds(0, 7, 1)", "odds(1, 1, 1)", "mid(7, 1)"), "lower()", 12);
        due.is(run.then("cabinet(0)", "bar()", "stop()", "sits(0)", "undo(0)"), "lower()", 12);
    }

    // ---- Promise 39: count

    private static void counts(Due due, Run run, int what, long want) {
        due.leaves(run, "count(" + what + ")", want);
    }

    @Says(of = 39, words = "0 MINISTERS")
    static void countOfMinisters(Due due) {
        counts(due, Run.anew(), 0, 0);
        counts(due, Run.of("r0 m010"), 0, 1);
        counts(due, Run.rich(), 0, 6);
        counts(due, Run.of("r0 m410").then("stop()"), 0, 1);
    }

    @Says(of = 39, words = "1 the BAR")
    static void countOfBars(Due due) {
        counts(due, Run.anew(), 1, 0);
        counts(due, ONE, 1, 0);
        counts(due, Run.rich(), 1, 2);
        counts(due, ONE.times(40, "bar()"), 1, 40);
        counts(due, ONE.times(3, "bar()").then("undo(1)"), 1, 1);
    }

    @Says(of = 39, words = "2 DEEDS")
    static void countOfDeeds(Due due) {
        counts(due, Run.anew(), 2, 0);
        counts(due, ONE, 2, 0);
        counts(due, Run.rich(), 2, 5);
        counts(due, ONE.times(40, "nudge(0)"), 2, 40);
        counts(due, ONE.times(3, "nudge(0)").then("undo(1)"), 2, 1);
    }

    @Says(of = 39, words = "3 who is IN (bits)")
    static void countOfWhoIsIn(Due due) {
        counts(due, Run.anew(), 3, 0);
        counts(due, ONE, 3, 1);
        counts(due, ONE.then("stop()"), 3, 0);
        counts(due, Run.rich(), 3, 4 + 16 + 32);
        counts(due, Run.rich().then("undo(0)"), 3, 63);
    }

    @Says(of = 39, words = "4 CHAIRS (bits)")
    static void countOfChairs(Due due) {
        counts(due, Run.anew(), 4, 0);
        counts(due, Run.of("r0 m010"), 4, 1);
        counts(due, Run.of("r7 m010"), 4, 128);
        counts(due, Run.of("r1234567 m010"), 4, 254);
        counts(due, Run.rich(), 4, 1 + 4 + 16);
    }

    @Says(of = 39, words = "5 STOPS")
    static void countOfStops(Due due) {
        counts(due, Run.anew(), 5, 0);
        counts(due, ONE, 5, 0);
        counts(due, Run.rich(), 5, 1);
        counts(due, ONE.times(40, "stop()"), 5, 40);
        counts(due, ONE.times(3, "stop()").then("undo(1)"), 5, 1);
    }

    @Says(of = 39, words = "6 OLD ones (ALLIES, too)")
    static void countOfOldOnes(Due due) {
        counts(due, Run.anew(), 6, 0);
        counts(due, Run.of("r0 m010 l010 d010 y010"), 6, 0);
        counts(due, Run.of("r0 o010"), 6, 1);
        counts(due, Run.of("r0 a010"), 6, 1);
        counts(due, Run.of("r0 o010 a010 o010 a010 o010 a010"), 6, 6);
        counts(due, Run.of("r0 m010 o010 l010 d010 a010 y010"), 6, 2);
    }

    @Says(of = 39, words = "7 DEAF ones (YOUNG ones, too)")
    static void countOfDeafOnes(Due due) {
        counts(due, Run.anew(), 7, 0);
        counts(due, Run.of("r0 m010 o010 l010 a010"), 7, 0);
        counts(due, Run.of("r0 d010"), 7, 1);
        counts(due, Run.of("r0 y010"), 7, 1);
        counts(due, Run.of("r0 d010 y010 d010 y010 d010 y010"), 7, 6);
        counts(due, Run.of("r0 m010 o010 l010 d010 a010 y010"), 7, 2);
    }

    @Says(of = 39, words = "8 ROWS")
    static void countOfRows(Due due) {
        counts(due, Run.anew(), 8, 0);
        Run run = Run.anew();
        for (int r = 5; r >= 0; r--) {
            run = run.row(r);
            counts(due, run, 8, 6 - r);
        }
        counts(due, run.then("row(3, 40)"), 8, 6);
        counts(due, run.then("tear(3)"), 8, 5);
        counts(due, run.then("tear(0)", "tear(5)"), 8, 4);
    }

    @Says(of = 39, words = "9 TEXTS that are there")
    static void countOfTexts(Due due) {
        counts(due, Run.anew(), 9, 0);
        Run run = Run.anew();
        for (int t = 3; t >= 0; t--) {
            run = run.then("text(" + t + ", 0)");
            counts(due, run, 9, 4 - t);
        }
        counts(due, run.then("text(3, 60)"), 9, 4);
    }

    @Says(of = 39, words = "10 kept CABINETS")
    static void countOfKeptCabinets(Due due) {
        counts(due, Run.anew(), 10, 0);
        Run run = ONE;
        for (int k = 2; k >= 0; k--) {
            counts(due, run, 10, 2 - k);
            run = run.then("keep(" + k + ")");
        }
        counts(due, run, 10, 3);
        counts(due, run.then("bar()", "keep(1)"), 10, 3);
        counts(due, run.then("on(1)", "undo(0)"), 10, 3);
        counts(due, run.then("cabinet(0)"), 10, 0);
    }

    @Says(of = 39, words = "BAD")
    static void countOfWhatIsNone(Due due) {
        due.refusesOutside(Run.rich(), Due.BAD, "count(%)", 0, 10);
        due.refusesOutside(Run.anew(), Due.BAD, "count(%)", 0, 10);
    }

    // ---- Promises 40, 41: finding, findings

    @Says(of = 40, words = "(0 before any)")
    static void findingBeforeAny(Due due) {
        due.is(Run.anew(), "finding()", 0);
        due.is(ONE.then("at(6, 0)", "take(4)", "when(0)", "nudge(1)"), "finding()", 0);
    }

    @Says(of = 40, words = "The latest FINDING")
    static void findingIsTheLatest(Due due) {
        Run run = Run.rich();
        due.is(run, "finding()", 4);
        due.is(run.then("at(3, 0)"), "finding()", 1);
        due.is(run.then("at(0, 3)"), "finding()", 2);
        due.is(run.then("mark(0, 1)"), "finding()", 3);
        due.is(run.then("at(3, 0)", "mean(1)"), "finding()", 4);
        due.is(run.then("row(0, -1)"), "finding()", 5);
        due.is(run.then("row(0, -1)", "at(3, 0)"), "finding()", 1);
        due.is(run.then("row(0, -1)", "at(6, 0)", "take(7)", "when(1)", "at(0, 0)"), "finding()", 5);
        due.is(run.then("row(0, -1)", "cabinet(0)"), "finding()", 5);
    }

    @Says(of = 41, words = "How often a FINDING (1 .. 5) was answered")
    static void findingsCountEach(Due due) {
        String[] calls = {"tear(5)", "at(0, 3)", "mark(0, 2)", "mean(1)", "text(0, -1)"};
        Run run = Run.of("r0 m010").row(0, 5, 6, 7).row(1);
        for (int f = 1; f <= 5; f++) {
            due.is(run, "findings(" + f + ")", 0);
            run = run.times(f, calls[f - 1]);
        }
        for (int f = 1; f <= 5; f++) {
            due.leaves(run, "findings(" + f + ")", f);
            due.is(run.then("at(6, 0)", "take(0)", "when(2)", "at(0, 0)", "cabinet(0)"), "findings(" + f + ")", f);
        }
        due.is(run.times(200, "tear(5)"), "findings(1)", 201);
    }

    @Says(of = 41, words = "BAD")
    static void findingsOfWhatIsNone(Due due) {
        due.refusesOutside(Run.rich(), Due.BAD, "findings(%)", 1, 5);
        due.refusesOutside(Run.anew(), Due.BAD, "findings(%)", 1, 5);
    }

    // ---- Promise 42: digest

    private static long hash(List<Long> numbers) {
        long h = 17;
        for (long number : numbers) {
            h = 31 * h + number;
        }
        return h;
    }

    private static void add(List<Long> all, long... numbers) {
        for (long number : numbers) {
            all.add(number);
        }
    }

    @Says(of = 42, words = {"h = 17; then h = 31 h + v for each v", "count() 0 to 10", "of each MINISTER",
        "of each kept CABINET", "of each ROW", "of each TEXT"})
    static void digestOfANewObject(Due due) {
        List<Long> all = new ArrayList<>();
        add(all, 0, 0, 0, 0, 0, 0, 0, 0, 0, 0, 0, -1, -1, -1, -1, -1, -1, -1, -1, -1, -1, -1, -1, -1);
        due.leaves(Run.anew(), "digest()", hash(all));
    }

    @Says(of = 42, words = {"(of a call that tells by asked(): what it tells, not the 1 that it answers",
        "minister() 0 to 5"})
    static void digestOfMinisters(Due due) {
        Run run = Run.of("r04 l025 o421").then("bar()", "text(0, 0)");
        List<Long> all = new ArrayList<>();
        add(all, 2, 1, 1, 3, 17, 0, 1, 0, 0, 1, 0, 2, 2, 2, 15, 1, 2, 1, 5, 2, 1, 1, 2);
        add(all, -1, -1, -1, -1, -1, -1, -1, -1, -1, 0, -1, -1, -1);
        due.leaves(run, "digest()", hash(all));
    }

    @Says(of = 42, words = "asked() stays)")
    static void digestLeavesAsked(Due due) {
        due.is(Run.rich(), "asked()", 6);
        due.is(Run.rich().then("digest()"), "asked()", 6);
        due.is(Run.rich().then("minister(5, 5)", "digest()"), "asked()", 2);
        due.is(Run.rich().then("digest()"), "finding()", 4);
    }

    @Says(of = 42, words = "of each kept CABINET how many DEEDS (-1: missing)")
    static void digestOfKeptCabinets(Due due) {
        Run run = Run.of("r0 m010").then("text(0, 0)");
        for (int kept = 0; kept <= 7; kept++) {
            Run keeping = run;
            long[] deeds = {-1, -1, -1};
            for (int k = 0; k <= 2; k++) {
                if ((kept >> k & 1) == 1) {
                    keeping = keeping.times(k, "bar()").then("keep(" + k + ")", "undo(0)");
                    deeds[k] = k;
                }
            }
            List<Long> all = new ArrayList<>();
            add(all, 1, 0, 0, 1, 1, 0, 0, 0, 0, 1, Integer.bitCount(kept), 0, 0, 1, 0, 1, 1);
            add(all, deeds);
            add(all, -1, -1, -1, -1, -1, -1, 0, -1, -1, -1);
            due.leaves(keeping, "digest()", hash(all));
        }
    }

    @Says(of = 42, words = "of each ROW its size (-1: missing) and places")
    static void digestOfRows(Due due) {
        List<Long> all = new ArrayList<>();
        add(all, 0, 0, 0, 0, 0, 0, 0, 0, 3, 0, 0, -1, -1, -1);
        add(all, 0, -1, 2, 7, Due.LOW, -1, -1, 1, Due.HIGH, -1, -1, -1, -1);
        due.leaves(Run.anew().row(0).row(2, 7, Due.LOW).row(5, Due.HIGH), "digest()", hash(all));
        due.leaves(Run.anew().row(0, 8).row(2, 7, Due.LOW, 5).row(5, Due.HIGH).row(1)
            .then("tear(1)", "row(0, 0)", "row(2, 2)", "lay(2, 0, 7)", "lay(2, 1, LOW)"), "digest()", hash(all));
        List<Long> forty = new ArrayList<>();
        add(forty, 0, 0, 0, 0, 0, 0, 0, 0, 1, 0, 0, -1, -1, -1, -1, -1, -1, 40);
        for (int i = 0; i < 40; i++) {
            forty.add(i == 39 ? 3L : 0L);
        }
        add(forty, -1, -1, -1, -1, -1, -1);
        due.leaves(Run.anew().then("row(3, 40)", "lay(3, 39, 3)"), "digest()", hash(forty));
    }

    @Says(of = 42, words = "of each TEXT likewise")
    static void digestOfTexts(Due due) {
        List<Long> all = new ArrayList<>();
        add(all, 0, 0, 0, 0, 0, 0, 0, 0, 0, 3, 0, -1, -1, -1, -1, -1, -1, -1, -1, -1);
        add(all, 3, 32, 32, -56, 0, -1, 1, 127);
        due.leaves(Run.anew().then("text(0, 3)", "put(0, 2, 200)", "text(1, 0)", "text(3, 1)", "put(3, 0, 127)"),
            "digest()", hash(all));
        due.leaves(Run.anew().text(0, "abcde").then("text(0, 3)", "put(0, 2, 200)", "text(1, 0)", "text(3, 1)",
            "put(3, 0, 127)"), "digest()", hash(all));
    }
}
