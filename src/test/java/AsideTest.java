/** Promises 21 to 27: who would sit, CHAIRS to be taken away or spared, rounds to be IN for. */
public final class AsideTest {
    private static final Due due = new Due();
    private static final int ALL_BARS = (1 << 21) - 1;

    public static void main(String[] args) {
        withoutMinisters();
        where();
        sits();
        bars();
        when();
        remove();
        spare();
        reign();
        reignOfNone();
        nothingIsDone();
        due.end();
    }

    private static void withoutMinisters() {
        ChairCabinet x = new ChairCabinet();
        due.is("where(0, 0)", x.where(0, 0), Due.BAD);
        due.is("sits(0)", x.sits(0), Due.STATE);
        due.is("sits(21)", x.sits(21), Due.BAD);
        due.is("bars(0)", x.bars(0), Due.BAD);
        due.is("when(0)", x.when(0), Due.STATE);
        due.is("when(1)", x.when(1), Due.BAD);
        due.is("remove(0, 0)", x.remove(0, 0), Due.BAD);
        due.is("spare(0, 0)", x.spare(0, 0), Due.BAD);
        due.is("reign(0, 0, 0)", x.reign(0, 0, 0), Due.BAD);
        due.is("no ROW came", x.count(8), 0);
    }

    private static void where() {
        ChairCabinet x = Due.of("r03m230o610o710d110a520m410");
        int[] places = {2, 5, 0, 3, 6, 1, 4, 7, 2};
        for (int n = 0; n < places.length; n++) {
            due.is("where(0, " + n + ")", x.where(0, n), places[n]);
        }
        due.is("where(0, 60)", x.where(0, 60), (2 + 180) % 8);
        due.is("where(1, 2): hovers at 0", x.where(1, 2), 0);
        due.is("where(1, 60): stays there", x.where(1, 60), 0);
        due.is("where(4, 3): an ALLY, by 7 1 3", x.where(4, 3), 3);
        due.is("where(4, 5): hovers at 3, then by 4 6", x.where(4, 5), 6);
        due.is("where(4, 6): to 0", x.where(4, 6), 0);
        due.is("where(3, 1): a DEAF one", x.where(3, 1), 2);
        due.is("where(0, 61)", x.where(0, 61), Due.BAD);
        due.is("where(0, -1)", x.where(0, -1), Due.BAD);
        due.is("where(6, 0)", x.where(6, 0), Due.BAD);
        due.is("where(-1, 0)", x.where(-1, 0), Due.BAD);
        x.stop();
        due.is("where(5, 0), OUT", x.where(5, 0), Due.STATE);
        due.is("where(5, 61), OUT", x.where(5, 61), Due.BAD);
    }

    private static void sits() {
        ChairCabinet x = Due.of("r35m219m318m517");
        due.tells("sits(0)", x, x.sits(0), 5, 8 + 32);
        due.tells("sits(1)", x, x.sits(1), 3, 8 + 32);
        due.tells("sits(2)", x, x.sits(2), 1, 32);
        due.tells("sits(5)", x, x.sits(5), 4, 8);
        due.tells("sits(20)", x, x.sits(20), 0, 0);
        due.is("sits(21)", x.sits(21), Due.BAD);
        due.is("sits(-1)", x.sits(-1), Due.BAD);
        ChairCabinet y = Due.of("r2m219a210");
        due.tells("sits(0), one on another", y, y.sits(0), 3, 4);
        due.is("stop() behind", y.stop(), 2);
        ChairCabinet z = Due.of("r4m010");
        z.stop();
        due.tells("sits(4), all OUT", z, z.sits(4), 0, 0);
    }

    private static void bars() {
        ChairCabinet x = Due.of("r4m010o010y010m011");
        due.is("bars(0)", x.bars(0), 0);
        due.is("bars(3)", x.bars(3), every(4, 8) | every(3, 8));
        due.is("bars(1): who hovers stays", x.bars(1), ALL_BARS & ~3 & ~(every(4, 8) | every(3, 8)));
        due.is("bars(2)", x.bars(2), ALL_BARS & 3);
        due.is("bars(4)", x.bars(4), Due.BAD);
        due.is("bars(-1)", x.bars(-1), Due.BAD);
        x.stop();
        due.is("bars(0), OUT", x.bars(0), Due.STATE);
    }

    private static int every(int first, int step) {
        int set = 0;
        for (int n = first; n <= 20; n += step) {
            set |= 1 << n;
        }
        return set;
    }

    private static void when() {
        ChairCabinet x = Due.of("r4m010m219m620");
        due.is("when(0)", x.when(0), 0);
        due.is("when(1)", x.when(1), 3);
        due.is("when(2)", x.when(2), 1);
        due.is("when(4)", x.when(4), 7);
        due.is("when(5)", x.when(5), Due.NONE);
        due.is("when(3)", x.when(3), Due.NONE);
        due.is("when(8)", x.when(8), Due.BAD);
        due.is("when(-1)", x.when(-1), Due.BAD);
        due.is("when(64)", x.when(64), Due.BAD);
        due.is("when(LOW)", x.when(Due.LOW), Due.BAD);
        ChairCabinet y = Due.of("r04m010m410");
        due.is("when(3) at once", y.when(3), 0);
        y = Due.of("r04m510m110");
        due.is("when(3)", y.when(3), 2);
        y = Due.of("r04m510m010");
        y.stop();
        due.is("when(1), OUT", y.when(1), Due.NONE);
        due.is("when(2), IN", y.when(2), 0);
        due.is("when(0), one OUT", y.when(0), 0);
        ChairCabinet z = Due.of("r0m010o120");
        z.take(0);
        z.nudge(0);
        due.is("when(1), latest", z.when(1), 6);
        ChairCabinet last = Due.of("r3456o038l324l626d436");
        due.is("when(15), at the last", last.when(15), 20);
    }

    private static void remove() {
        ChairCabinet x = Due.of("r0124m010o010y010l419");
        due.tells("remove(3, 0)", x, x.remove(3, 0), 1, 16);
        due.tells("remove(2, 0)", x, x.remove(2, 0), 1, 1);
        due.tells("remove(0, 0)", x, x.remove(0, 0), 2, 3);
        ChairCabinet y = Due.of("r0124m010");
        due.tells("two CHAIRS", y, y.remove(0, 0), 2, 3);
        due.tells("none", y, y.remove(0, 5), 0, 0);
        due.is("remove(0, 21)", y.remove(0, 21), Due.BAD);
        due.is("remove(0, -1)", y.remove(0, -1), Due.BAD);
        due.is("remove(1, 0)", y.remove(1, 0), Due.BAD);
        due.is("remove(-1, 0)", y.remove(-1, 0), Due.BAD);
        due.is("asked() behind refusals", y.asked(), 0);
        ChairCabinet z = Due.of("r0246y010");
        due.tells("all of them", z, z.remove(0, 0), 4, 1 + 4 + 16 + 64);
        ChairCabinet o = Due.of("r06o510");
        // Hovering at 6 one stays there; without it one comes to 0 and hovers there.
        due.tells("of one who hovers", o, o.remove(0, 3), 2, 1 + 64);
        ChairCabinet out = Due.of("r0m410");
        out.stop();
        due.is("remove(0, 0), OUT", out.remove(0, 0), Due.STATE);
        due.is("remove(0, 21), OUT", out.remove(0, 21), Due.BAD);
    }

    private static void spare() {
        ChairCabinet x = Due.of("r0134m010");
        due.is("spare(0, 0)", x.spare(0, 0), 0);
        ChairCabinet y = Due.of("r034m010");
        due.is("not the own one", y.spare(0, 0), 3);
        due.is("spare(0, 1)", y.spare(0, 1), Due.NONE);
        due.is("spare(0, 2)", y.spare(0, 2), 0);
        due.is("spare(0, 3)", y.spare(0, 3), 0);
        due.is("spare(0, 21)", y.spare(0, 21), Due.BAD);
        due.is("spare(0, -1)", y.spare(0, -1), Due.BAD);
        due.is("spare(1, 0)", y.spare(1, 0), Due.BAD);
        due.is("spare(-1, 0)", y.spare(-1, 0), Due.BAD);
        ChairCabinet z = Due.of("r0m010");
        due.is("one CHAIR alone", z.spare(0, 0), Due.NONE);
        z = Due.of("r0m410");
        due.is("one CHAIR alone, not sat on", z.spare(0, 4), Due.NONE);
        z.stop();
        due.is("spare(0, 0), OUT", z.spare(0, 0), Due.STATE);
        ChairCabinet o = Due.of("r05o010");
        due.is("without that at which one hovers", o.spare(0, 9), 0);
        due.is("without the other one", o.spare(0, 2), 5);
        // As it is one hovers at 7, comes to 0 and is OUT; without it one comes to 1.
        o = Due.of("r37o520");
        due.is("OUT as it is", o.sits(2), 0);
        due.is("IN without a CHAIR", o.spare(0, 2), 7);
    }

    private static void reign() {
        ChairCabinet x = Due.of("r0246m110");
        due.is("reign(0, 0, 4)", x.reign(0, 0, 4), 0);
        due.row("reign(0, 0, 4)", x, 4);
        due.is("reign(0, 1, 4)", x.reign(0, 1, 4), 0);
        due.row("reign(0, 1, 4)", x, 4, 0);
        // To 2, that of 0 goes; stays at 2, that of 2 goes; then a walk to 3 by 1, for 4.
        due.is("reign(0, 3, 4)", x.reign(0, 3, 4), 1);
        due.row("reign(0, 3, 4)", x, 4, 0, 0, 1);
        ChairCabinet y = Due.of("r14m610");
        due.is("reign(0, 2, 0)", y.reign(0, 2, 0), 4);
        due.row("reign(0, 2, 0)", y, 0, 2, 2);
        due.is("reign(0, 3, 0)", y.reign(0, 3, 0), 4);
        due.row("reign(0, 3, 0)", y, 0, 2, 2, 0);
        ChairCabinet far = Due.of("r6m010");
        due.is("by 5 BARS", far.reign(0, 1, 0), 5);
        due.row("by 5 BARS", far, 0, 5);
        due.is("by 6 BARS", Due.of("r7m010").reign(0, 1, 0), Due.NONE);
        ChairCabinet z = Due.of("r0m320");
        due.is("the last CHAIR stays", z.reign(0, 3, 1), 2);
        due.row("the last CHAIR stays", z, 1, 2, 0, 0);
        due.is("reign(0, 4, 0)", z.reign(0, 4, 0), Due.BAD);
        due.is("reign(0, -1, 0)", z.reign(0, -1, 0), Due.BAD);
        due.is("reign(1, 1, 0)", z.reign(1, 1, 0), Due.BAD);
        due.is("reign(0, 1, 6)", z.reign(0, 1, 6), Due.BAD);
        due.is("reign(0, 1, -1)", z.reign(0, 1, -1), Due.BAD);
        due.is("asked() is not told by reign()", z.asked(), 0);
    }

    private static void reignOfNone() {
        ChairCabinet x = Due.of("r0m110m011");
        Due.fill(x, 2, 7, 8);
        due.is("reign(0, 1, 2)", x.reign(0, 1, 2), Due.NONE);
        due.row("the ROW stays", x, 2, 7, 8);
        due.is("reign(0, 1, 3)", x.reign(0, 1, 3), Due.NONE);
        due.is("no ROW comes", x.count(8), 1);
        x.stop();
        due.is("reign(0, 0, 2), OUT", x.reign(0, 0, 2), Due.STATE);
        due.is("reign(0, 0, 6), OUT", x.reign(0, 0, 6), Due.BAD);
        due.row("the ROW stays", x, 2, 7, 8);
    }

    private static void nothingIsDone() {
        ChairCabinet x = Due.of("r01346m023o115l229d437a114y630");
        long digest = x.digest();
        x.where(0, 9);
        x.sits(9);
        x.bars(1);
        x.when(9);
        x.remove(2, 9);
        x.spare(3, 9);
        x.bribe(4, 3);
        x.odds(5, 6, 5);
        x.mid(6, 5);
        due.is("digest() behind looking aside", x.digest() == digest ? 1 : 0, 1);
        due.is("reign(0, 2, 0)", x.reign(0, 2, 0) >= 0 ? 1 : 0, 1);
        x.tear(0);
        due.is("digest() behind reign()", x.digest() == digest ? 1 : 0, 1);
    }
}
