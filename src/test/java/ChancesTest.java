/** Promises 32 to 35: by turns, chances, means, LOTS. */
public final class ChancesTest {
    private static final Due due = new Due();

    public static void main(String[] args) {
        withoutMinisters();
        bribe();
        odds();
        mid();
        lots();
        lotsByTheirNumbers();
        due.end();
    }

    private static void withoutMinisters() {
        ChairCabinet x = new ChairCabinet();
        due.is("bribe(0, 0)", x.bribe(0, 0), Due.BAD);
        due.is("odds(0, 0, 0)", x.odds(0, 0, 0), Due.BAD);
        due.is("mid(0, 0)", x.mid(0, 0), Due.STATE);
        due.is("mid(7, 0)", x.mid(7, 0), Due.BAD);
        due.is("lots(1, 1)", x.lots(1, 1), Due.STATE);
        due.is("lots(21, 1)", x.lots(21, 1), Due.BAD);
    }

    private static void bribe() {
        // One is IN behind so many BARS in all: the first one wants three of these in a row,
        // beginning with 0, 1 or 2, as the other one has the last word.
        ChairCabinet x = Due.of("r4m410");
        due.is("bribe(0, 0): 0 does", x.bribe(0, 0), 1);
        due.is("bribe(0, 1): 0 alone", x.bribe(0, 1), 0);
        due.is("0 and 1", Due.of("r1m010").bribe(0, 1), 0);
        due.is("0 to 2", Due.of("r12m010").bribe(0, 1), 1);
        due.is("0 to 3", Due.of("r13m010").bribe(0, 1), 1);
        due.is("2 to 4", Due.of("r34m010").bribe(0, 1), 1);
        due.is("3 to 5", Due.of("r45m010").bribe(0, 1), 0);
        due.is("3 to 5, at 0 none", Due.of("r45m010").bribe(0, 0), 0);
        due.is("twice each, 3 to 5", Due.of("r45m010").bribe(0, 2), 1);
        due.is("twice each, 4 to 6", Due.of("r56m010").bribe(0, 2), 1);
        due.is("twice each, 5 to 7", Due.of("r67m010").bribe(0, 2), 0);
        due.is("thrice each, 5 to 7", Due.of("r67m010").bribe(0, 3), 1);
        ChairCabinet w = Due.of("r0m510m511m512");
        due.is("bribe(0, 3)", w.bribe(0, 3), 0);
        due.is("bribe(0, 4)", w.bribe(0, 4), Due.BAD);
        due.is("bribe(0, -1)", w.bribe(0, -1), Due.BAD);
        due.is("bribe(3, 0)", w.bribe(3, 0), Due.BAD);
        due.is("bribe(-1, 0)", w.bribe(-1, 0), Due.BAD);
        w.stop();
        due.is("bribe(0, 0), OUT", w.bribe(0, 0), Due.STATE);
        due.is("bribe(0, 4), OUT", w.bribe(0, 4), Due.BAD);
        due.is("bribe(2, 0), OUT", w.bribe(2, 0), Due.STATE);
    }

    private static void told(String call, ChairCabinet x, int got, long upper, long lower) {
        due.is(call, got, 1);
        due.is("upper() behind " + call, x.upper(), upper);
        due.is("lower() behind " + call, x.lower(), lower);
    }

    private static void odds() {
        // IN behind 1 or 2 BARS: at 3, at 4.
        ChairCabinet x = Due.of("r4m210");
        due.is("upper() at first", x.upper(), 0);
        due.is("lower() at first", x.lower(), 1);
        told("odds(0, 0, 12)", x, x.odds(0, 0, 12), 0, 1);
        told("odds(0, 1, 3)", x, x.odds(0, 1, 3), 3, 4);
        told("odds(0, 2, 3)", x, x.odds(0, 2, 3), 3, 4);
        told("odds(0, 3, 3)", x, x.odds(0, 3, 3), 21, 64);
        told("odds(0, 6, 3)", x, x.odds(0, 6, 3), 21, 64);
        told("odds(0, 6, 1)", x, x.odds(0, 6, 1), 12 * 11 + 121, 1728);
        told("odds(0, 6, 12)", x, x.odds(0, 6, 12), 0, 1);
        told("odds(0, 2, 0)", x, x.odds(0, 2, 0), 1, 1);
        told("odds(0, 3, 0)", x, x.odds(0, 3, 0), 0, 1);
        told("odds(0, 1, 5)", x, x.odds(0, 1, 5), 7, 12);
        due.is("odds(0, 7, 5)", x.odds(0, 7, 5), Due.BAD);
        due.is("odds(0, -1, 5)", x.odds(0, -1, 5), Due.BAD);
        due.is("odds(0, 1, 13)", x.odds(0, 1, 13), Due.BAD);
        due.is("odds(0, 1, -1)", x.odds(0, 1, -1), Due.BAD);
        due.is("odds(1, 1, 1)", x.odds(1, 1, 1), Due.BAD);
        due.is("odds(-1, 1, 1)", x.odds(-1, 1, 1), Due.BAD);
        x.stop();
        due.is("odds(0, 1, 1), OUT", x.odds(0, 1, 1), Due.STATE);
        due.is("odds(0, 1, 13), OUT", x.odds(0, 1, 13), Due.BAD);
        due.is("upper() behind refusals", x.upper(), 7);
        due.is("lower() behind refusals", x.lower(), 12);
        due.is("asked() is not told", x.asked(), 0);
    }

    private static void mid() {
        // Behind 0 BARS two are IN, behind 1 the first one alone, behind 2 none.
        ChairCabinet x = Due.of("r45m319m418");
        due.is("who is IN behind 0", x.sits(0), 3);
        due.is("who is IN behind 1", x.sits(1), 3);
        due.is("who is IN behind 2", x.sits(2), 1);
        due.is("who is IN behind 3", x.sits(3), 0);
        told("mid(0, 5)", x, x.mid(0, 5), 2, 1);
        told("mid(1, 5)", x, x.mid(1, 5), 2, 1);
        told("mid(2, 6)", x, x.mid(2, 6), 7, 4);
        told("mid(2, 0)", x, x.mid(2, 0), 1, 1);
        told("mid(3, 0)", x, x.mid(3, 0), 0, 1);
        told("mid(3, 4)", x, x.mid(3, 4), 2 * 9 + 2 * 6 + 4, 27);
        told("mid(6, 12)", x, x.mid(6, 12), 2, 1);
        due.is("mid(7, 0)", x.mid(7, 0), Due.BAD);
        due.is("mid(-1, 0)", x.mid(-1, 0), Due.BAD);
        due.is("mid(0, 13)", x.mid(0, 13), Due.BAD);
        due.is("mid(0, -1)", x.mid(0, -1), Due.BAD);
        x.take(4);
        x.stop();
        due.is("one who is OUT", x.count(3), 2);
        told("mid(0, 0)", x, x.mid(0, 0), 1, 1);
    }

    private static void lots() {
        ChairCabinet x = Due.of("r01m010m511");
        due.is("lots(0, 1)", x.lots(0, 1), Due.BAD);
        due.is("lots(21, 1)", x.lots(21, 1), Due.BAD);
        due.is("lots(1, 0)", x.lots(1, 0), Due.BAD);
        due.is("lots(1, -1)", x.lots(1, -1), Due.BAD);
        due.is("lots(1, 2147483647)", x.lots(1, 2147483647), Due.BAD);
        due.is("no DEEDS by these", x.count(2), 0);
        due.is("lots(1, 2147483646)", x.lots(1, 2147483646) >= 0 ? 1 : 0, 1);
        due.is("lots(19, 7)", x.lots(19, 7) >= 0 ? 1 : 0, 1);
        due.is("20 DEEDS", x.count(2), 20);
        x.bar();
        due.is("lots(20, 1): 41", x.lots(20, 1), Due.FULL);
        due.is("lots(21, 1): BAD ahead of FULL", x.lots(21, 1), Due.BAD);
        due.is("21 DEEDS", x.count(2), 21);
        due.is("lots(19, 1): 40", x.lots(19, 1) >= 0 ? 1 : 0, 1);
        due.is("40 DEEDS", x.count(2), 40);
        due.is("lots(1, 1), full", x.lots(1, 1), Due.FULL);
        due.is("undo(0)", x.undo(0), 40);
        due.is("all IN again", x.count(3), 3);
        // Of this seed come, by 8, cut, modulo 8: 2, a NUDGE of the only one; 3, a BAR.
        ChairCabinet y = Due.of("r03m310");
        due.is("lots(2, 407355683)", y.lots(2, 407355683), 1);
        due.is("a BAR", y.count(1), 1);
        due.is("a NUDGE, too", y.where(0, 0), 5);
        // 48271 by 8, cut, modulo 8 is 1: the CHAIR of the least PLACE, then of the last one a BAR.
        due.is("lots(1, 1)", y.lots(1, 1), 1);
        due.is("a CHAIR fewer", y.count(4), 8);
        due.is("no BAR", y.count(1), 1);
        due.is("lots(1, 1) again", y.lots(1, 1), 1);
        due.is("the last one stays", y.count(4), 8);
        due.is("a BAR", y.count(1), 2);
    }

    /** Does by single calls what LOTS of many seeds should do, and compares. */
    private static void lotsByTheirNumbers() {
        for (int seed = 1; seed <= 300; seed++) {
            ChairCabinet x = Due.of("r0146m010o511l220d330");
            ChairCabinet y = Due.of("r0146m010o511l220d330");
            int start = seed * 7_000_001 % 2147483647;
            long number = Math.abs(start) + 1;
            due.is("lots(20, " + number + ")", x.lots(20, (int) number), byHand(y, number));
            due.is("digest() of seed " + number, x.digest() == y.digest() ? 1 : 0, 1);
            x.undo(13);
            y.undo(13);
            due.is("digest() undone, seed " + number, x.digest() == y.digest() ? 1 : 0, 1);
        }
    }

    private static int byHand(ChairCabinet y, long seed) {
        long number = seed;
        for (int k = 0; k < 20; k++) {
            number = number * 48271 % 2147483647;
            int what = (int) (number / 8 % 8);
            int chairs = y.count(4);
            int i = (int) (number % 4);
            if (what == 0) {
                y.stop();
            } else if (what == 1 && Integer.bitCount(chairs) > 1) {
                y.take(Integer.numberOfTrailingZeros(chairs));
            } else if (what == 2 && (y.count(3) >> i & 1) == 1) {
                y.nudge(i);
            } else {
                y.bar();
            }
        }
        return Integer.bitCount(y.count(3));
    }
}
