/** Promises 21 to 24: who would sit. */
public final class AsideTest {
    private static final Run ALL = Run.of("r0146 m023 o115 l229 d437 a114 y630");
    private static final int BARS_0_TO_20 = (1 << 21) - 1;

    public static void main(String[] args) {
        Due.run(AsideTest.class);
    }

    /** Bits from a first one on, by steps, up to 20. */
    private static int every(int first, int step) {
        int set = 0;
        for (int n = first; n <= 20; n += step) {
            set |= 1 << n;
        }
        return set;
    }

    private static final Run ONE_OUT = Run.of("r04 m419 m418 m019").then("stop()");

    // ---- what the Terms say

    @Says(of = 0, words = "(aside)")
    static void lookingAsideIsNoDeed(Due due) {
        for (int n = 0; n <= 20; n += 5) {
            due.leaves(Run.rich(), "where(2, " + n + ")", (5 + 3 * n) % 8);
        }
        due.leaves(Run.rich(), "bars(5)", BARS_0_TO_20);
        due.leaves(Run.rich(), "when(32)", 0);
        due.tellsOnly(Run.rich(), "sits(0)", 16 + 32, 1 + 16);
        due.tellsOnly(Run.rich(), "sits(1)", 4 + 16 + 32, 1 + 4 + 16);
    }

    // ---- Promise 21: where

    @Says(of = 21, words = "The PLACE of a MINISTER in n")
    static void whereIsAsPlayed(Due due) {
        for (int n = 0; n <= 40; n++) {
            Played x = ALL.times(n, "bar()").made();
            for (int i = 0; i <= 5; i++) {
                x.call("minister(" + i + ", 1)");
                due.is(ALL, "where(" + i + ", " + n + ")", x.call("asked()"));
            }
        }
    }

    @Says(of = 21, words = "n (0 .. 60) BARS")
    static void whereIn0To60Bars(Due due) {
        Run run = Run.of("r03 m230 o610 y110 a520");
        due.leaves(run, "where(0, 0)", 2);
        due.leaves(run, "where(0, 1)", 5);
        due.leaves(run, "where(0, 59)", (2 + 3 * 59) % 8);
        due.leaves(run, "where(0, 60)", (2 + 3 * 60) % 8);
        due.leaves(run, "where(1, 1)", 7);
        due.leaves(run, "where(1, 60)", 0);
        due.leaves(run, "where(2, 60)", (1 + 60) % 8);
        due.refusesOutside(run, Due.BAD, "where(0, %)", 0, 60);
        due.refusesOutside(Run.rich(), Due.BAD, "where(5, %)", 0, 60);
    }

    @Says(of = 21, words = "The PLACE of a MINISTER in n")
    static void whereOfOneWhoHovers(Due due) {
        Run run = Run.of("r03 o610 a520 o720");
        due.is(run, "where(0, 2)", 0);
        due.is(run, "where(0, 3)", 0);
        due.is(run, "where(1, 3)", 3);
        due.is(run, "where(1, 4)", 4);
        due.is(run, "where(1, 6)", 0);
        due.is(run, "where(1, 7)", 1);
        due.is(run, "where(2, 2)", 3);
        due.is(run, "where(2, 3)", 4);
        due.is(run.then("take(3)"), "where(2, 3)", 5);
    }

    @Says(of = 21, words = "BAD")
    static void whereOfAMinisterWhoIsNone(Due due) {
        due.refusesOutside(Run.rich(), Due.BAD, "where(%, 0)", 0, 5);
        due.refusesOutside(Run.of("r0 m010"), Due.BAD, "where(%, 60)", 0, 0);
        due.refusesOutside(Run.anew(), Due.BAD, "where(%, 0)", 0, -1);
    }

    @Says(of = 21, words = "STATE: one is OUT")
    static void whereOfOneWhoIsOut(Due due) {
        due.refuses(ONE_OUT, Due.STATE, "where(1, 0)", "where(1, 60)");
        due.is(ONE_OUT, "where(0, 0)", 4);
        due.refuses(Run.rich(), Due.STATE, "where(0, 0)", "where(3, 5)");
        due.refuses(Run.rich(), Due.BAD, "where(0, 61)", "where(0, -1)");
        due.leaves(Run.rich(), "where(2, 0)", 5);
    }

    // ---- Promise 22: sits

    @Says(of = 22, words = {"Who (bits) would be IN behind a STOP in n", "CHAIRS (bits) taken then by asked()"})
    static void sitsIsAsPlayed(Due due) {
        for (int n = 0; n <= 20; n++) {
            Played x = ALL.times(n, "bar()").then("stop()").made();
            long in = x.call("count(3)");
            long taken = 0;
            for (int i = 0; i <= 5; i++) {
                x.call("minister(" + i + ", 1)");
                taken |= (in >> i & 1) << x.call("asked()");
            }
            due.tells(ALL, "sits(" + n + ")", in, taken);
        }
    }

    @Says(of = 22, words = "n (0 .. 20) BARS")
    static void sitsIn0To20Bars(Due due) {
        Run run = Run.of("r3567 m219 m318 m517 l410");
        due.tellsOnly(run, "sits(0)", 1 + 4 + 8, 8 + 32 + 64);
        due.tellsOnly(run, "sits(19)", 1 + 2 + 8, 32 + 64 + 128);
        due.tellsOnly(run, "sits(20)", 1 + 2, 64 + 128);
        due.refusesOutside(run, Due.BAD, "sits(%)", 0, 20);
        due.refusesOutside(Run.rich(), Due.BAD, "sits(%)", 0, 20);
    }

    @Says(of = 22, words = "Who (bits) would be IN")
    static void sitsOfAllAndOfNobody(Due due) {
        due.tellsOnly(Run.of("r012345 m010 m110 m210 m310 m410 m510"), "sits(0)", 63, 63);
        due.tellsOnly(Run.of("r0 m410 y430 m510"), "sits(0)", 2, 1);
        due.tellsOnly(Run.of("r0 m410 l410 m510"), "sits(0)", 0, 0);
        due.tellsOnly(Run.of("r0 m410").then("stop()"), "sits(4)", 0, 0);
        due.tellsOnly(Run.of("r7 m719 a718 a617"), "sits(0)", 7, 128);
        due.tellsOnly(ONE_OUT, "sits(0)", 5, 1 + 16);
    }

    @Says(of = 22, words = "BAD")
    static void sitsIsBadAheadOfState(Due due) {
        due.refusesOutside(Run.anew(), Due.BAD, "sits(%)", 0, 20);
    }

    @Says(of = 22, words = "STATE: no MINISTERS")
    static void sitsWithoutMinisters(Due due) {
        due.refuses(Run.anew().row(0, 5).then("at(0, 0)"), Due.STATE, "sits(0)", "sits(20)");
    }

    // ---- Promise 23: bars

    @Says(of = 23, words = "by which, if it stopped behind so many, a MINISTER would be IN")
    static void barsAreAsPlayed(Due due) {
        long[] in = new long[6];
        for (int n = 0; n <= 20; n++) {
            long set = ALL.times(n, "bar()").then("stop()").made().call("count(3)");
            for (int i = 0; i <= 5; i++) {
                in[i] |= (set >> i & 1) << n;
            }
        }
        for (int i = 0; i <= 5; i++) {
            due.is(ALL, "bars(" + i + ")", in[i]);
        }
    }

    @Says(of = 23, words = "BARS (bits 0 .. 20)")
    static void barsAre0To20(Due due) {
        due.leaves(Run.of("r4 y010"), "bars(0)", BARS_0_TO_20);
        due.leaves(Run.of("r0 o010"), "bars(0)", BARS_0_TO_20);
        due.leaves(Run.of("r4 m010"), "bars(0)", every(4, 8) | every(3, 8));
        due.leaves(Run.of("r0 m010"), "bars(0)", every(0, 8) | every(7, 8));
        // Behind 20 BARS one is at 4, and at 3 behind 19.
        due.leaves(Run.of("r4 m010"), "bars(0)", 1 << 3 | 1 << 4 | 1 << 11 | 1 << 12 | 1 << 19 | 1 << 20);
        due.leaves(Run.of("r5 m010"), "bars(0)", 1 << 4 | 1 << 5 | 1 << 12 | 1 << 13 | 1 << 20);
        due.leaves(Run.of("r0 l019 m410 m419 y010"), "bars(1)", 0);
    }

    @Says(of = 23, words = "BAD")
    static void barsOfAMinisterWhoIsNone(Due due) {
        due.refusesOutside(Run.rich(), Due.BAD, "bars(%)", 0, 5);
        due.refusesOutside(Run.of("r0 m010"), Due.BAD, "bars(%)", 0, 0);
        due.refusesOutside(Run.anew(), Due.BAD, "bars(%)", 0, -1);
    }

    @Says(of = 23, words = "STATE: one is OUT")
    static void barsOfOneWhoIsOut(Due due) {
        due.refuses(ONE_OUT, Due.STATE, "bars(1)");
        due.leaves(ONE_OUT, "bars(0)", every(0, 4) | every(3, 4));
        due.leaves(ONE_OUT.then("undo(0)"), "bars(1)", 0);
        due.refuses(Run.rich(), Due.STATE, "bars(0)", "bars(1)", "bars(3)");
    }

    // ---- Promise 24: when

    @Says(of = 24, words = {"In how many BARS", "it should stop first so that all of a set of MINISTERS are IN"})
    static void whenIsTheFirstOfAllThatDo(Due due) {
        Run run = Run.of("r4 m010 m219 m620");
        due.leaves(run, "when(1)", 3);
        due.leaves(run, "when(2)", 1);
        due.leaves(run, "when(4)", 7);
        due.leaves(Run.of("r04 m510 m110"), "when(3)", 2);
        due.leaves(Run.of("r04 m010 m410"), "when(3)", 0);
        for (int set = 0; set <= 63; set++) {
            int first = Due.NONE;
            for (int n = 20; n >= 0; n--) {
                first = (ALL.made().call("sits(" + n + ")") & set) == set ? n : first;
            }
            due.is(ALL, "when(" + set + ")", first);
        }
    }

    @Says(of = 24, words = "(0 .. 20)")
    static void whenIn0To20Bars(Due due) {
        Run run = Run.of("r1246 d316 o320 d314 d135");
        due.leaves(run, "when(15)", Due.NONE);
        due.leaves(run.then("bar()"), "when(15)", 20);
        due.leaves(run.times(20, "bar()"), "when(15)", 1);
        due.leaves(run.times(21, "bar()"), "when(15)", 0);
    }

    @Says(of = 24, words = "NONE: in none")
    static void whenInNone(Due due) {
        due.leaves(Run.of("r4 m010 m219 m620"), "when(3)", Due.NONE);
        due.leaves(Run.of("r4 m010 m219 m620"), "when(5)", Due.NONE);
        due.leaves(Run.of("r4 m010 m219 m620"), "when(7)", Due.NONE);
        due.leaves(Run.of("r0 m010 m011"), "when(1)", Due.NONE);
        due.leaves(ONE_OUT, "when(2)", Due.NONE);
        due.leaves(ONE_OUT, "when(7)", Due.NONE);
        due.leaves(ONE_OUT, "when(5)", 0);
        due.leaves(Run.rich(), "when(1)", Due.NONE);
    }

    @Says(of = 24, words = "all of a set of MINISTERS are IN")
    static void whenOfNobodyIsAtOnce(Due due) {
        due.leaves(Run.of("r4 m010"), "when(0)", 0);
        due.leaves(Run.of("r0 m410").then("stop()"), "when(0)", 0);
    }

    @Says(of = 24, words = "BAD")
    static void whenOfASetThatIsNone(Due due) {
        due.refusesOutside(Run.rich(), Due.BAD, "when(%)", 0, 63);
        due.refuses(Run.rich(), Due.BAD, "when(65)", "when(127)", "when(-64)");
        due.refusesOutside(Run.of("r4 m010"), Due.BAD, "when(%)", 0, 1);
        due.refusesOutside(Run.of("r4 m010 m010 m010"), Due.BAD, "when(%)", 0, 7);
        due.refuses(Run.of("r4 m010 m010 m010"), Due.BAD, "when(9)", "when(63)");
        due.refuses(Run.anew(), Due.BAD, "when(-1)", "when(64)");
    }

    @Says(of = 24, words = "STATE: no MINISTERS")
    static void whenWithoutMinisters(Due due) {
        due.refuses(Run.anew(), Due.STATE, "when(0)");
    }
}
