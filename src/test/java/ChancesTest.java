import java.math.BigInteger;

/** Promises 32 to 35: by turns, chances, means, LOTS. */
public final class ChancesTest {
    private static final Run ALL = Run.of("r0146 m023 o115 l229 d437 a114 y630");
    private static final Run ONE_OUT = Run.of("r04 m419 m418 m019").then("stop()");

    public static void main(String[] args) {
        Due.run(ChancesTest.class);
    }

    // ---- Promise 32: bribe

    /** Whether one is IN at the end when each of two does one's best, by turns that are still to come. */
    private static boolean wins(long[] in, int i, int bars, int turns) {
        if (turns == 0) {
            return (in[bars] >> i & 1) == 1;
        }
        boolean first = turns % 2 == 0;
        for (int more = 0; more <= 2; more++) {
            if (wins(in, i, bars + more, turns - 1) == first) {
                return first;
            }
        }
        return !first;
    }

    @Says(of = 32, words = {"By turns two bribe the band to play 0, 1 or 2 BARS more",
        "whether a MINISTER is IN then (1, 0), which the first one wants, the other one not"})
    static void bribeByTurns(Due due) {
        String[] all = {"r0146 m023 o115 l229 d437 a114 y630", "r0123567 m010 l120 o230 d310 m520 a630",
            "r234567 o019 m118 m225 l320 y410 d116", "r0123 m010 o020 d030 a610 l710 m220"};
        for (String signs : all) {
            Played x = Run.of(signs).made();
            long[] in = new long[13];
            for (int bars = 0; bars <= 12; bars++) {
                in[bars] = x.call("sits(" + bars + ")");
            }
            for (int i = 0; i <= 5; i++) {
                for (int n = 0; n <= 3; n++) {
                    due.is(x, "bribe(" + i + ", " + n + ")", wins(in, i, 0, 2 * n) ? 1 : 0);
                }
            }
        }
    }

    @Says(of = 32, words = "to play 0, 1 or 2 BARS more")
    static void bribeFor0To2Bars(Due due) {
        // The first one wants three BARS in a row that do, from 0, 1 or 2 on, as the other one comes last.
        due.leaves(Run.of("r01 m010"), "bribe(0, 1)", 0);
        due.leaves(Run.of("r12 m010"), "bribe(0, 1)", 1);
        due.leaves(Run.of("r23 m010"), "bribe(0, 1)", 1);
        due.leaves(Run.of("r34 m010"), "bribe(0, 1)", 1);
        due.leaves(Run.of("r45 m010"), "bribe(0, 1)", 0);
        due.leaves(Run.of("r2 m010"), "bribe(0, 1)", 0);
        due.leaves(Run.of("r024 m010"), "bribe(0, 1)", 1);
    }

    @Says(of = 32, words = "n (0 .. 3) times each, then it stops")
    static void bribe0To3Times(Due due) {
        Run near = Run.of("r0 m010");
        due.leaves(near, "bribe(0, 0)", 1);
        due.leaves(near, "bribe(0, 1)", 0);
        due.leaves(Run.of("r45 m010"), "bribe(0, 0)", 0);
        due.leaves(Run.of("r45 m010"), "bribe(0, 1)", 0);
        due.leaves(Run.of("r45 m010"), "bribe(0, 2)", 1);
        due.leaves(Run.of("r56 m010"), "bribe(0, 2)", 1);
        due.leaves(Run.of("r67 m010"), "bribe(0, 2)", 0);
        due.leaves(Run.of("r67 m010"), "bribe(0, 3)", 1);
        due.leaves(Run.of("r4 y010"), "bribe(0, 3)", 1);
        due.refusesOutside(near, Due.BAD, "bribe(0, %)", 0, 3);
        due.refusesOutside(Run.rich(), Due.BAD, "bribe(2, %)", 0, 3);
    }

    @Says(of = 32, words = "BAD")
    static void bribeForAMinisterWhoIsNone(Due due) {
        due.refusesOutside(Run.rich(), Due.BAD, "bribe(%, 0)", 0, 5);
        due.refusesOutside(Run.of("r0 m010"), Due.BAD, "bribe(%, 1)", 0, 0);
        due.refusesOutside(Run.anew(), Due.BAD, "bribe(%, 0)", 0, -1);
        due.refuses(Run.rich(), Due.BAD, "bribe(0, 4)", "bribe(0, -1)");
    }

    @Says(of = 32, words = "STATE: one is OUT")
    static void bribeForOneWhoIsOut(Due due) {
        due.refuses(Run.rich(), Due.STATE, "bribe(0, 0)", "bribe(1, 3)", "bribe(3, 1)");
        due.refuses(ONE_OUT, Due.STATE, "bribe(1, 0)");
        due.leaves(ONE_OUT, "bribe(0, 0)", 1);
    }

    // ---- Promise 33: odds, Promise 34: mid

    /** The mean of how many of a set are IN, of 12 to the n, by each BAR's way there. */
    private static BigInteger upperOf12(Run run, int set, int n, int p) {
        BigInteger upper = BigInteger.ZERO;
        for (int bars = 0; bars <= n; bars++) {
            BigInteger way = BigInteger.valueOf(12 - p).pow(bars);
            if (bars < n) {
                way = way.multiply(BigInteger.valueOf(p)).multiply(BigInteger.valueOf(12).pow(n - bars - 1));
            }
            int many = Long.bitCount(run.made().call("sits(" + bars + ")") & set);
            upper = upper.add(way.multiply(BigInteger.valueOf(many)));
        }
        return upper;
    }

    private static void chance(Due due, String call, int set, int n, int p) {
        BigInteger upper = upperOf12(ALL, set, n, p);
        BigInteger lower = BigInteger.valueOf(12).pow(n);
        BigInteger shared = upper.gcd(lower);
        due.tellsChance(ALL, call, upper.divide(shared).longValueExact(), lower.divide(shared).longValueExact());
    }

    @Says(of = 33, words = {"Chances that a MINISTER would be IN, if it stops behind 0, 1, .. BARS by p",
        "if it has not yet, and behind n", "at last: 1"})
    static void oddsByEachBarsWay(Due due) {
        for (int i = 0; i <= 5; i++) {
            for (int n = 0; n <= 6; n += 2) {
                for (int p : new int[] {0, 1, 5, 6, 11, 12}) {
                    chance(due, "odds(" + i + ", " + n + ", " + p + ")", 1 << i, n, p);
                }
            }
        }
    }

    /** IN behind 1 or 2 BARS, of 0 to 6: at 3, at 4. */
    private static final Run ONE = Run.of("r4 m210");

    @Says(of = 33, words = "by p (0 .. 12) of 12 each")
    static void oddsBy0To12Of12(Due due) {
        due.tellsChanceOnly(ONE, "odds(0, 2, 0)", 1, 1);
        due.tellsChanceOnly(ONE, "odds(0, 3, 0)", 0, 1);
        due.tellsChanceOnly(ONE, "odds(0, 6, 12)", 0, 1);
        due.tellsChanceOnly(ONE.then("bar()"), "odds(0, 6, 12)", 1, 1);
        due.tellsChanceOnly(ONE, "odds(0, 1, 1)", 11, 12);
        due.tellsChanceOnly(ONE, "odds(0, 1, 11)", 1, 12);
        due.tellsChanceOnly(ONE, "odds(0, 6, 1)", 12 * 11 + 121, 1728);
        due.refusesOutside(ONE, Due.BAD, "odds(0, 1, %)", 0, 12);
        due.refusesOutside(Run.rich(), Due.BAD, "odds(2, 1, %)", 0, 12);
    }

    @Says(of = 33, words = "n (0 .. 6) at last")
    static void oddsOf0To6Bars(Due due) {
        due.tellsChanceOnly(ONE, "odds(0, 0, 5)", 0, 1);
        due.tellsChanceOnly(ONE, "odds(0, 1, 5)", 7, 12);
        due.tellsChanceOnly(ONE, "odds(0, 2, 3)", 3, 4);
        due.tellsChanceOnly(ONE, "odds(0, 3, 3)", 21, 64);
        due.tellsChanceOnly(ONE, "odds(0, 6, 3)", 21, 64);
        // Behind 6 BARS alone: 11 of 12 six times.
        due.tellsChanceOnly(Run.of("r0 m110"), "odds(0, 6, 1)", 1771561, 2985984);
        due.refusesOutside(ONE, Due.BAD, "odds(0, %, 5)", 0, 6);
        due.refusesOutside(Run.rich(), Due.BAD, "odds(2, %, 5)", 0, 6);
    }

    @Says(of = 0, words = {"Chances, means are told by upper(), lower(), in lowest terms",
        "the lower number above 0 (0 by 1)"})
    static void chancesAreInLowestTerms(Due due) {
        due.tellsChance(ONE, "odds(0, 0, 5)", 0, 1);
        due.tellsChance(ONE, "odds(0, 6, 12)", 0, 1);
        due.tellsChance(ONE, "odds(0, 2, 0)", 1, 1);
        due.tellsChance(ONE, "odds(0, 1, 2)", 5, 6);
        due.tellsChance(ONE, "odds(0, 1, 6)", 1, 2);
        due.tellsChance(ONE, "odds(0, 1, 8)", 1, 3);
        due.tellsChance(ONE, "odds(0, 1, 9)", 1, 4);
        due.tellsChance(ONE, "mid(1, 9)", 1, 4);
        due.tellsChance(Run.of("r0 m410"), "mid(2, 5)", 0, 1);
        due.tellsChance(Run.of("r0 m410"), "mid(2, 0)", 0, 1);
        due.tellsChance(Run.of("r012345 m010 m110 m210 m310 m410 m510"), "mid(0, 5)", 6, 1);
    }

    @Says(of = 33, words = "BAD")
    static void oddsOfAMinisterWhoIsNone(Due due) {
        due.refusesOutside(Run.rich(), Due.BAD, "odds(%, 1, 1)", 0, 5);
        due.refusesOutside(ONE, Due.BAD, "odds(%, 0, 0)", 0, 0);
        due.refusesOutside(Run.anew(), Due.BAD, "odds(%, 0, 0)", 0, -1);
        due.refuses(Run.rich(), Due.BAD, "odds(0, 7, 1)", "odds(0, -1, 1)", "odds(0, 1, 13)", "odds(0, 1, -1)");
    }

    @Says(of = 33, words = "STATE: one is OUT")
    static void oddsOfOneWhoIsOut(Due due) {
        due.refuses(Run.rich(), Due.STATE, "odds(0, 0, 0)", "odds(1, 6, 12)", "odds(3, 1, 5)");
        due.refuses(ONE_OUT, Due.STATE, "odds(1, 0, 12)");
        due.tellsChanceOnly(ONE_OUT, "odds(0, 0, 12)", 1, 1);
    }

    @Says(of = 34, words = {"The mean of how many are IN then: 1"})
    static void midByEachBarsWay(Due due) {
        for (int n = 0; n <= 6; n++) {
            for (int p : new int[] {0, 1, 5, 6, 11, 12}) {
                chance(due, "mid(" + n + ", " + p + ")", 63, n, p);
            }
        }
        // Behind 0 BARS two are IN, behind 1, too, behind 2 one, behind 3 none.
        Run two = Run.of("r45 m319 m418");
        due.tellsChanceOnly(two, "mid(0, 5)", 2, 1);
        due.tellsChanceOnly(two, "mid(1, 5)", 2, 1);
        due.tellsChanceOnly(two, "mid(2, 6)", 7, 4);
        due.tellsChanceOnly(two, "mid(2, 0)", 1, 1);
        due.tellsChanceOnly(two, "mid(3, 0)", 0, 1);
        due.tellsChanceOnly(two, "mid(3, 4)", 2 * 9 + 2 * 6 + 4, 27);
        due.tellsChanceOnly(two, "mid(6, 12)", 2, 1);
        due.tellsChanceOnly(ONE_OUT, "mid(0, 0)", 2, 1);
    }

    @Says(of = 34, words = "BAD")
    static void midOfNumbersThatAreNone(Due due) {
        due.refusesOutside(Run.rich(), Due.BAD, "mid(%, 5)", 0, 6);
        due.refusesOutside(Run.rich(), Due.BAD, "mid(2, %)", 0, 12);
        due.refusesOutside(Run.anew(), Due.BAD, "mid(%, 5)", 0, 6);
        due.refusesOutside(Run.anew(), Due.BAD, "mid(2, %)", 0, 12);
    }

    @Says(of = 34, words = "STATE: no MINISTERS")
    static void midWithoutMinisters(Due due) {
        due.refuses(Run.anew(), Due.STATE, "mid(0, 0)", "mid(6, 12)");
        due.tellsChanceOnly(Run.of("r0 m410").then("stop()"), "mid(0, 0)", 0, 1);
    }

    // ---- Promise 35: lots

    /** What LOTS of a number are, as a single call. */
    private static String deedOf(Played x, long number) {
        long what = number / 8 % 8;
        long chairs = x.call("count(4)");
        long i = number % x.call("count(0)");
        return what == 0 ? "stop()"
            : what == 1 && Long.bitCount(chairs) > 1 ? "take(" + Long.numberOfTrailingZeros(chairs) + ")"
            : what == 2 && (x.call("count(3)") >> i & 1) == 1 ? "nudge(" + i + ")" : "bar()";
    }

    private static long after(long number) {
        return number * 48271 % 2147483647;
    }

    /** The least seed whose first number is of this sort: by 8, cut, modulo 8, and modulo many. */
    private static long seedOf(int what, int many, int i) {
        for (long seed = 1; seed < 100000; seed++) {
            if (after(seed) / 8 % 8 == what && after(seed) % many == i) {
                return seed;
            }
        }
        throw new IllegalStateException("no seed");
    }

    private static void lotsAre(Due due, Run run, int n, long seed) {
        Played by = run.made();
        Run other = run;
        long number = seed;
        for (int k = 0; k < n; k++) {
            number = after(number);
            String deed = deedOf(by, number);
            by.call(deed);
            other = other.then(deed);
        }
        due.becomes(run, "lots(" + n + ", " + seed + ")", Long.bitCount(by.call("count(3)")), other);
    }

    @Says(of = 35, words = {"DEEDS truly by LOTS of a seed: for each a number", "how many are IN then"})
    static void lotsAsSingleDeeds(Due due) {
        for (int k = 1; k <= 60; k++) {
            lotsAre(due, Run.of("r0146 m010 o511 l220 d330"), 1 + k % 20, (long) k * k * k * 9973 % 2147483647);
        }
        lotsAre(due, ALL, 20, 407355683);
        lotsAre(due, ALL.times(7, "bar()"), 20, 20261120);
    }

    @Says(of = 35, words = "n (1 .. 20) DEEDS")
    static void lotsOf1To20Deeds(Due due) {
        lotsAre(due, ALL, 1, 5);
        lotsAre(due, ALL, 2, 5);
        lotsAre(due, ALL, 19, 5);
        lotsAre(due, ALL, 20, 5);
        due.is(ALL.then("lots(20, 5)"), "count(2)", 20);
        due.refusesOutside(ALL, Due.BAD, "lots(%, 5)", 1, 20);
        due.refusesOutside(Run.rich(), Due.BAD, "lots(%, 5)", 1, 20);
    }

    @Says(of = 0, words = {"LOTS: a number comes from the one ahead by 48271 times it modulo 2147483647",
        "the first from a seed (1 .. 2147483646)"})
    static void lotsOfASeed(Due due) {
        lotsAre(due, ALL, 20, 1);
        lotsAre(due, ALL, 20, 2);
        lotsAre(due, ALL, 20, 2147483645);
        lotsAre(due, ALL, 20, 2147483646);
        due.refuses(Run.rich(), Due.BAD, "lots(1, 0)", "lots(1, -1)", "lots(1, LOW)", "lots(1, 2147483647)");
        // 48271 by 8, cut, modulo 8 is 1: the CHAIR of the least PLACE; of 182605794 it is 4: a BAR.
        due.becomes(Run.of("r03 m010"), "lots(2, 1)", 1, Run.of("r03 m010").then("take(0)", "bar()"));
    }

    @Says(of = 35, words = "it by 8, cut, modulo 8: 0 a STOP")
    static void lotsOf0AreAStop(Due due) {
        Run run = Run.of("r05 m010 m011 m510");
        for (int i = 0; i <= 2; i++) {
            due.becomes(run, "lots(1, " + seedOf(0, 3, i) + ")", 2, run.then("stop()"));
        }
    }

    @Says(of = 35, words = "1 the CHAIR of the least PLACE is taken away")
    static void lotsOf1AreAChair(Due due) {
        Run run = Run.of("r257 m010 m011 m510");
        for (int i = 0; i <= 2; i++) {
            due.becomes(run, "lots(1, " + seedOf(1, 3, i) + ")", 3, run.then("take(2)"));
        }
        due.becomes(run.then("take(2)"), "lots(1, " + seedOf(1, 3, 0) + ")", 3, run.then("take(2)", "take(5)"));
    }

    @Says(of = 35, words = "(if it is not the last one; else a BAR)")
    static void lotsOfTheLastChairAreABar(Due due) {
        Run run = Run.of("r27 m010 m011 m510").then("take(2)");
        due.becomes(run, "lots(1, " + seedOf(1, 3, 0) + ")", 3, run.then("bar()"));
        Run one = Run.of("r7 m010");
        due.becomes(one, "lots(1, " + seedOf(1, 1, 0) + ")", 1, one.then("bar()"));
    }

    @Says(of = 35, words = "2 a NUDGE of MINISTER it modulo how many there are")
    static void lotsOf2AreANudge(Due due) {
        String six = "r0 m010 o121 l232 d313 a424 y535";
        for (int many = 1; many <= 6; many++) {
            Run run = Run.of(six.substring(0, 2 + 5 * many));
            for (int i = 0; i < many; i++) {
                due.becomes(run, "lots(1, " + seedOf(2, many, i) + ")", many, run.then("nudge(" + i + ")"));
            }
        }
    }

    @Says(of = 35, words = "(if one is IN; else a BAR)")
    static void lotsOfOneWhoIsOutAreABar(Due due) {
        due.becomes(ONE_OUT, "lots(1, " + seedOf(2, 3, 1) + ")", 2, ONE_OUT.then("bar()"));
        due.becomes(ONE_OUT, "lots(1, " + seedOf(2, 3, 2) + ")", 2, ONE_OUT.then("nudge(2)"));
        Run nobody = Run.of("r0 m410").then("stop()");
        due.becomes(nobody, "lots(1, " + seedOf(2, 1, 0) + ")", 0, nobody.then("bar()"));
    }

    @Says(of = 35, words = "3 .. 7 a BAR")
    static void lotsOf3To7AreABar(Due due) {
        Run run = Run.of("r05 m010 m011 m510");
        for (int what = 3; what <= 7; what++) {
            for (int i = 0; i <= 2; i++) {
                due.becomes(run, "lots(1, " + seedOf(what, 3, i) + ")", 3, run.then("bar()"));
            }
        }
    }

    @Says(of = 35, words = "BAD")
    static void lotsAreBadAheadOfStateAndFull(Due due) {
        due.refusesOutside(Run.anew(), Due.BAD, "lots(%, 5)", 1, 20);
        due.refuses(Run.anew(), Due.BAD, "lots(1, 0)", "lots(1, 2147483647)");
        Run full = Run.of("r0 m010").times(40, "bar()");
        due.refuses(full, Due.BAD, "lots(0, 5)", "lots(21, 5)", "lots(1, 0)", "lots(1, 2147483647)");
    }

    @Says(of = 35, words = "STATE: no MINISTERS")
    static void lotsWithoutMinisters(Due due) {
        due.refuses(Run.anew(), Due.STATE, "lots(1, 1)", "lots(20, 2147483646)");
        due.is(Run.of("r0 m410").then("stop()"), "lots(1, 1)", 0);
    }

    @Says(of = 35, words = "FULL: with n more there would be more than 40 DEEDS")
    static void lotsOfTooManyDeeds(Due due) {
        for (int n : new int[] {1, 2, 19, 20}) {
            Run run = Run.of("r04 m010").times(40 - n, "bar()");
            lotsAre(due, run, n, 77);
            due.is(run.then("lots(" + n + ", 77)"), "count(2)", 40);
            due.refuses(run.then("bar()"), Due.FULL, "lots(" + n + ", 77)");
        }
        due.refuses(Run.of("r04 m010").times(40, "bar()"), Due.FULL, "lots(20, 77)");
        lotsAre(due, Run.of("r04 m010").times(21, "bar()"), 19, 77);
    }

    @Says(of = 35, words = "(FULL last.)")
    static void lotsAreFullLast(Due due) {
        due.refuses(Run.anew(), Due.STATE, "lots(20, 1)");
        due.refuses(Run.of("r0 m410").times(40, "stop()"), Due.FULL, "lots(1, 1)");
    }
}
