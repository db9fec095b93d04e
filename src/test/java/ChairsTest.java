import java.util.ArrayList;
import java.util.Arrays;
import java.util.List;

/** Promises 25 to 27: CHAIRS to be taken away, one that can be spared, how to be IN for some rounds. */
public final class ChairsTest {
    private static final String SIGNS = "r0146 m023 o115 l229 d437 a114 y630";
    private static final Run ALL = Run.of(SIGNS);
    private static final Run ONE_OUT = Run.of("r04 m419 m418 m019").then("stop()");

    public static void main(String[] args) {
        Due.run(ChairsTest.class);
    }

    // ---- Promise 25: remove

    /** Whether one is IN by a STOP in n BARS, when some CHAIRS, not all, have been taken away. */
    private static boolean isInWithout(Run run, int chairs, int i, int n) {
        Run without = run;
        for (int place = 0; place <= 7; place++) {
            without = (chairs >> place & 1) == 1 ? without.then("take(" + place + ")") : without;
        }
        return (without.made().call("sits(" + n + ")") >> i & 1) == 1;
    }

    @Says(of = 25, words = {"The fewest CHAIRS to be taken away now so that a MINISTER would be OUT by a STOP in n",
        "which by asked() (bits"})
    static void removeTheFewestOfAllThatDo(Due due) {
        int all = 1 + 2 + 16 + 64;
        for (int i = 0; i <= 5; i++) {
            for (int n : new int[] {0, 1, 2, 3, 19, 20}) {
                int best = all;
                for (int set = all - 1; set >= 0; set--) {
                    boolean less = Integer.bitCount(set) <= Integer.bitCount(best);
                    if ((set & ~all) == 0 && less && !isInWithout(ALL, set, i, n)) {
                        best = set;
                    }
                }
                due.tells(ALL, "remove(" + i + ", " + n + ")", Integer.bitCount(best), best);
            }
        }
    }

    @Says(of = 25, words = "The fewest CHAIRS to be taken away")
    static void removeNoChairOfOneWhoWouldBeOut(Due due) {
        due.tellsOnly(Run.of("r0 m410"), "remove(0, 0)", 0, 0);
        due.tellsOnly(Run.of("r01234 m510"), "remove(0, 0)", 0, 0);
        due.tellsOnly(Run.of("r01234 m510"), "remove(0, 2)", 1, 1);
    }

    @Says(of = 25, words = "(all may be)")
    static void removeAllChairs(Due due) {
        due.tellsOnly(Run.of("r0 m010"), "remove(0, 0)", 1, 1);
        due.tellsOnly(Run.of("r7 y010"), "remove(0, 20)", 1, 128);
        due.tellsOnly(Run.of("r0246 y010"), "remove(0, 0)", 4, 1 + 4 + 16 + 64);
        due.tellsOnly(Run.of("r1234567 y010"), "remove(0, 20)", 7, 254);
        due.tellsOnly(Run.of("r01 m010"), "remove(0, 0)", 2, 3);
        due.tellsOnly(Run.of("r012 m010"), "remove(0, 0)", 2, 3);
    }

    @Says(of = 25, words = "of like many the least number)")
    static void removeTheLeastOfLikeMany(Due due) {
        // Without 0 or without 1 the one who is more CUNNING comes ahead; without 7 it is no less.
        Run run = Run.of("r01 m019 m010");
        due.tellsOnly(run, "remove(1, 0)", 1, 1);
        due.tellsOnly(Run.of("r12 m119 m118"), "remove(1, 0)", 1, 2);
        due.tellsOnly(Run.of("r012 o019 o018 o017"), "remove(2, 0)", 1, 1);
        due.tellsOnly(Run.of("r067 o619 o618 o617"), "remove(2, 0)", 1, 1);
        due.tellsOnly(Run.of("r567 o519 o518 o517"), "remove(2, 0)", 1, 32);
        due.tellsOnly(Run.of("r4567 y419 y418"), "remove(1, 0)", 3, 16 + 32 + 64);
    }

    @Says(of = 25, words = "n (0 .. 20) BARS")
    static void removeIn0To20Bars(Due due) {
        Run run = Run.of("r04 m010");
        due.tellsOnly(run, "remove(0, 0)", 1, 1);
        due.tellsOnly(run, "remove(0, 19)", 1, 16);
        due.tellsOnly(run, "remove(0, 20)", 1, 16);
        due.tellsOnly(run, "remove(0, 17)", 0, 0);
        due.refusesOutside(run, Due.BAD, "remove(0, %)", 0, 20);
        due.refusesOutside(Run.rich(), Due.BAD, "remove(2, %)", 0, 20);
    }

    @Says(of = 25, words = "to be taken away now")
    static void removeAheadOfTheBars(Due due) {
        // Hovering at 6 one stays there; without it one comes to 0 and hovers there.
        due.tellsOnly(Run.of("r06 o510"), "remove(0, 3)", 2, 1 + 64);
        // Without 7, where one hovers, one would be at 1 and IN; with both one is OUT as it is.
        due.tellsOnly(Run.of("r37 o520"), "remove(0, 2)", 0, 0);
    }

    @Says(of = 25, words = "BAD")
    static void removeForAMinisterWhoIsNone(Due due) {
        due.refusesOutside(Run.rich(), Due.BAD, "remove(%, 0)", 0, 5);
        due.refusesOutside(Run.of("r0 m010"), Due.BAD, "remove(%, 0)", 0, 0);
        due.refusesOutside(Run.anew(), Due.BAD, "remove(%, 0)", 0, -1);
        due.refuses(Run.rich(), Due.BAD, "remove(0, 21)", "remove(0, -1)");
    }

    @Says(of = 25, words = "STATE: one is OUT")
    static void removeForOneWhoIsOut(Due due) {
        due.refuses(Run.rich(), Due.STATE, "remove(0, 0)", "remove(1, 20)", "remove(3, 1)");
        due.refuses(ONE_OUT, Due.STATE, "remove(1, 0)");
        due.tellsOnly(ONE_OUT, "remove(0, 0)", 1, 16);
    }

    // ---- Promise 26: spare

    @Says(of = 26, words = {"The PLACE (the first) of a CHAIR without which a MINISTER would be IN by a STOP in n"})
    static void spareTheFirstOfAllThatDo(Due due) {
        for (int i = 0; i <= 5; i++) {
            for (int n : new int[] {0, 1, 2, 3, 19, 20}) {
                int first = Due.NONE;
                for (int place : new int[] {6, 4, 1, 0}) {
                    first = isInWithout(ALL, 1 << place, i, n) ? place : first;
                }
                due.leaves(ALL, "spare(" + i + ", " + n + ")", first);
            }
        }
    }

    @Says(of = 26, words = "The PLACE (the first) of a CHAIR")
    static void spareTheFirstPlaceAndTheLast(Due due) {
        due.leaves(Run.of("r034 m310"), "spare(0, 0)", 0);
        due.leaves(Run.of("r034 m010"), "spare(0, 0)", 3);
        due.leaves(Run.of("r07 m010"), "spare(0, 0)", 7);
        due.leaves(Run.of("r01 m010"), "spare(0, 0)", 0);
        due.leaves(Run.of("r37 o520"), "spare(0, 2)", 7);
    }

    @Says(of = 26, words = "n (0 .. 20) BARS")
    static void spareIn0To20Bars(Due due) {
        Run run = Run.of("r04 m010");
        due.leaves(run, "spare(0, 0)", 4);
        due.leaves(run, "spare(0, 19)", 0);
        due.leaves(run, "spare(0, 20)", 0);
        due.leaves(run, "spare(0, 18)", Due.NONE);
        due.refusesOutside(run, Due.BAD, "spare(0, %)", 0, 20);
        due.refusesOutside(Run.rich(), Due.BAD, "spare(2, %)", 0, 20);
    }

    @Says(of = 26, words = "NONE: there is none such")
    static void spareNone(Due due) {
        due.leaves(Run.of("r034 m010"), "spare(0, 1)", Due.NONE);
        due.leaves(Run.of("r01 m019 m010"), "spare(1, 0)", Due.NONE);
        due.leaves(Run.rich(), "spare(2, 0)", Due.NONE);
    }

    @Says(of = 26, words = "(so, too, if there is one CHAIR alone)")
    static void spareTheOnlyChair(Due due) {
        due.leaves(Run.of("r0 m010"), "spare(0, 0)", Due.NONE);
        due.leaves(Run.of("r0 m410"), "spare(0, 4)", Due.NONE);
        due.leaves(Run.of("r7 y010"), "spare(0, 20)", Due.NONE);
        due.leaves(Run.of("r07 m010").then("take(7)"), "spare(0, 0)", Due.NONE);
        due.leaves(Run.of("r07 m010").then("take(7)", "undo(0)"), "spare(0, 0)", 7);
    }

    @Says(of = 26, words = "BAD")
    static void spareForAMinisterWhoIsNone(Due due) {
        due.refusesOutside(Run.rich(), Due.BAD, "spare(%, 0)", 0, 5);
        due.refusesOutside(Run.of("r0 m010"), Due.BAD, "spare(%, 0)", 0, 0);
        due.refusesOutside(Run.anew(), Due.BAD, "spare(%, 0)", 0, -1);
        due.refuses(Run.rich(), Due.BAD, "spare(0, 21)", "spare(0, -1)");
    }

    @Says(of = 26, words = "STATE: one is OUT")
    static void spareForOneWhoIsOut(Due due) {
        due.refuses(Run.rich(), Due.STATE, "spare(0, 0)", "spare(1, 20)", "spare(3, 1)");
        // So, too, if there is one CHAIR alone.
        due.refuses(Run.of("r0 m410").then("stop()"), Due.STATE, "spare(0, 0)");
        due.leaves(ONE_OUT, "spare(0, 0)", 0);
    }

    // ---- Promise 27: reign

    /** All rows of 0 to 5 BARS in n rounds, lesser ones ahead. */
    private static List<int[]> rowsOfBars(int n) {
        List<int[]> all = new ArrayList<>(List.of(new int[0]));
        for (int round = 0; round < n; round++) {
            List<int[]> longer = new ArrayList<>();
            for (int[] row : all) {
                for (int bars = 0; bars <= 5; bars++) {
                    int[] more = Arrays.copyOf(row, row.length + 1);
                    more[row.length] = bars;
                    longer.add(more);
                }
            }
            all = longer;
        }
        return all;
    }

    /** Who is IN behind the rounds, by single calls. */
    private static long inBehind(Run run, int[] row) {
        Played x = run.made();
        for (int bars : row) {
            for (int k = 0; k < bars; k++) {
                x.call("bar()");
            }
            x.call("stop()");
            long chairs = x.call("count(4)");
            if (Long.bitCount(chairs) > 1) {
                x.call("take(" + Long.numberOfTrailingZeros(chairs) + ")");
            }
        }
        return x.call("count(3)");
    }

    @Says(of = 27, words = {"The fewest BARS in all by which a MINISTER is IN for n",
        "0 to 5 BARS, a STOP, then the CHAIR of the least PLACE is taken away",
        "the first such row of BARS (lesser ones ahead) comes to a ROW (anew)"})
    static void reignByTheFewestOfAllThatDo(Due due) {
        for (int n = 0; n <= 3; n++) {
            List<int[]> rows = rowsOfBars(n);
            List<Long> in = new ArrayList<>();
            for (int[] row : rows) {
                in.add(inBehind(ALL, row));
            }
            for (int i = 0; i <= 5; i++) {
                int fewest = Due.NONE;
                int[] best = new int[0];
                for (int k = 0; k < rows.size(); k++) {
                    int sum = Arrays.stream(rows.get(k)).sum();
                    if ((in.get(k) >> i & 1) == 1 && (fewest == Due.NONE || sum < fewest)) {
                        fewest = sum;
                        best = rows.get(k);
                    }
                }
                Run run = ALL.row(3, 9, 9);
                due.becomes(run, "reign(" + i + ", " + n + ", 3)", fewest,
                    fewest == Due.NONE ? run : ALL.row(3, best));
            }
        }
    }

    @Says(of = 27, words = "n (0 .. 3) rounds")
    static void reignFor0To3Rounds(Due due) {
        Run run = Run.of("r0246 m110");
        due.becomes(run, "reign(0, 0, 4)", 0, run.row(4));
        due.becomes(run, "reign(0, 1, 4)", 0, run.row(4, 0));
        due.becomes(run, "reign(0, 2, 4)", 0, run.row(4, 0, 0));
        // To 2, that of 0 goes; stays at 2, that of 2 goes; then a walk to 3 by 1, for 4.
        due.becomes(run, "reign(0, 3, 4)", 1, run.row(4, 0, 0, 1));
        due.refusesOutside(run.row(4, 9), Due.BAD, "reign(0, %, 4)", 0, 3);
        due.refusesOutside(Run.rich(), Due.BAD, "reign(2, %, 0)", 0, 3);
    }

    @Says(of = 27, words = "0 to 5 BARS")
    static void reignBy0To5Bars(Due due) {
        for (int chair = 1; chair <= 6; chair++) {
            Run run = Run.of("r" + chair + " m010");
            due.becomes(run, "reign(0, 1, 2)", chair - 1, run.row(2, chair - 1));
        }
        due.leaves(Run.of("r7 m010"), "reign(0, 1, 2)", Due.NONE);
        due.leaves(Run.of("r7 m010").row(2, 5), "reign(0, 1, 2)", Due.NONE);
        Run twice = Run.of("r36 d410");
        // Behind 5 BARS one is at 1, goes to 2 and sits at 3; that goes, and by 1 BAR one comes to 6.
        due.becomes(twice, "reign(0, 2, 0)", 6, twice.row(0, 5, 1));
    }

    @Says(of = 27, words = "then the CHAIR of the least PLACE is taken away")
    static void reignWithoutTheLeastChair(Due due) {
        Run run = Run.of("r14 m610");
        due.becomes(run, "reign(0, 2, 0)", 4, run.row(0, 2, 2));
        due.becomes(run, "reign(0, 3, 0)", 4, run.row(0, 2, 2, 0));
        Run last = Run.of("r47 m410");
        due.becomes(last, "reign(0, 1, 0)", 0, last.row(0, 0));
        due.becomes(last, "reign(0, 2, 0)", 2, last.row(0, 0, 2));
    }

    @Says(of = 27, words = "(if it is not the last one) in each")
    static void reignOnTheLastChair(Due due) {
        Run run = Run.of("r0 m010");
        due.becomes(run, "reign(0, 3, 1)", 0, run.row(1, 0, 0, 0));
        Run walk = Run.of("r0 m320");
        due.becomes(walk, "reign(0, 3, 1)", 2, walk.row(1, 2, 0, 0));
        Run two = Run.of("r03 m010");
        due.becomes(two, "reign(0, 3, 1)", 2, two.row(1, 0, 2, 0));
    }

    @Says(of = 27, words = "the first such row of BARS (lesser ones ahead)")
    static void reignByTheLesserOfLikeFew(Due due) {
        // By 0, then 1: 0, and from 1 on to 2; by 1, then 0: to 2 at once.
        Run run = Run.of("r02 m010");
        due.is("IN by 1, then 0", inBehind(run, new int[] {1, 0}), 1);
        due.becomes(run, "reign(0, 2, 5)", 1, run.row(5, 0, 1));
        Run far = Run.of("r02 m520");
        due.is("IN by 2, then 0", inBehind(far, new int[] {2, 0}), 1);
        due.becomes(far, "reign(0, 2, 5)", 2, far.row(5, 1, 1));
    }

    @Says(of = 27, words = "comes to a ROW (anew)")
    static void reignMakesARowAnew(Due due) {
        Run run = Run.of("r0 m320");
        for (int r = 0; r <= 5; r++) {
            due.becomes(run, "reign(0, 1, " + r + ")", 2, run.row(r, 2));
            due.becomes(run.row(r, 7, 8, 9), "reign(0, 1, " + r + ")", 2, run.row(r, 2));
            due.becomes(run.row(r, 7, 8, 9), "reign(0, 0, " + r + ")", 0, run.row(r));
            due.becomes(run.row(r, 7), "reign(0, 3, " + r + ")", 2, run.row(r, 2, 0, 0));
        }
    }

    @Says(of = 27, words = "NONE: by none")
    static void reignByNone(Due due) {
        Run run = Run.of("r0 m110 m011").row(2, 7, 8);
        due.leaves(run, "reign(0, 1, 2)", Due.NONE);
        due.leaves(run, "reign(0, 1, 3)", Due.NONE);
        due.leaves(run, "reign(0, 3, 2)", Due.NONE);
        due.becomes(run, "reign(0, 0, 2)", 0, Run.of("r0 m110 m011").row(2));
    }

    @Says(of = 0, words = {"NONE -9 (as an answer: a ROW that would come anew stays)"})
    static void aRowStaysWithNone(Due due) {
        Run run = Run.of("r7 m010");
        due.leaves(run.row(0, 4, 5, 6), "reign(0, 1, 0)", Due.NONE);
        due.leaves(run.row(0), "reign(0, 1, 0)", Due.NONE);
        due.leaves(run, "reign(0, 1, 0)", Due.NONE);
        due.is(run.then("reign(0, 1, 0)"), "count(8)", 0);
    }

    @Says(of = 27, words = "BAD")
    static void reignOfWhatIsNone(Due due) {
        due.refusesOutside(Run.rich(), Due.BAD, "reign(%, 1, 0)", 0, 5);
        due.refusesOutside(Run.rich(), Due.BAD, "reign(2, 1, %)", 0, 5);
        due.refusesOutside(Run.of("r0 m010").row(0, 9), Due.BAD, "reign(%, 0, 0)", 0, 0);
        due.refusesOutside(Run.anew(), Due.BAD, "reign(%, 0, 0)", 0, -1);
        due.refuses(Run.rich(), Due.BAD, "reign(0, 4, 0)", "reign(0, -1, 0)", "reign(0, 1, 6)", "reign(0, 1, -1)");
    }

    @Says(of = 27, words = "STATE: one is OUT")
    static void reignOfOneWhoIsOut(Due due) {
        due.refuses(Run.rich(), Due.STATE, "reign(0, 0, 0)", "reign(1, 3, 5)", "reign(3, 1, 0)");
        due.refuses(ONE_OUT.row(0, 9), Due.STATE, "reign(1, 0, 0)");
        due.becomes(ONE_OUT.row(0, 9), "reign(0, 1, 0)", 0, ONE_OUT.row(0, 0));
    }
}
