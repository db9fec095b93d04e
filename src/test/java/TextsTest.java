/** Promises 8 to 13: TEXTS, the CABINET's language, MINISTERS and what their KINDS tell. */
public final class TextsTest {
    private static final Due due = new Due();

    public static void main(String[] args) {
        text();
        put();
        fault();
        cabinet();
        minister();
        mark();
        markOfOneWhoIsOut();
        due.end();
    }

    private static void text() {
        ChairCabinet x = new ChairCabinet();
        due.is("text(0, 60)", x.text(0, 60), 60);
        due.is("text(0, 61)", x.text(0, 61), Due.BAD);
        due.is("text(3, 0)", x.text(3, 0), 0);
        due.is("text(4, 0)", x.text(4, 0), Due.BAD);
        due.is("text(-1, 0)", x.text(-1, 0), Due.BAD);
        due.is("text(4, -1)", x.text(4, -1), Due.BAD);
        due.finds("text(0, -1)", x, x.text(0, -1), Due.SIZE);
        for (int i = 0; i < 60; i++) {
            due.is("put(0, " + i + ", 65)", x.put(0, i, 65), 1032);
        }
        due.is("text(0, 2) anew", x.text(0, 2), 2);
        due.is("put(0, 1, 1) anew", x.put(0, 1, 1), 1032);
        due.is("count(9)", x.count(9), 2);
    }

    private static void put() {
        ChairCabinet x = new ChairCabinet();
        x.text(1, 2);
        due.is("put(1, 0, 127)", x.put(1, 0, 127), 1032);
        due.is("put(1, 0, 128)", x.put(1, 0, 128), 1127);
        due.is("put(1, 0, -129)", x.put(1, 0, -129), 872);
        due.is("put(1, 0, 256 + 65)", x.put(1, 0, 256 + 65), 1127);
        due.is("put(1, 0, -1)", x.put(1, 0, -1), 1065);
        due.is("put(1, 0, HIGH)", x.put(1, 0, Due.HIGH), 999);
        due.is("put(1, 0, LOW)", x.put(1, 0, Due.LOW), 999);
        due.is("put(1, 0, 5)", x.put(1, 0, 5), 1000);
        due.finds("put(1, 2, 0)", x, x.put(1, 2, 0), Due.BEYOND);
        due.finds("put(0, 0, 0)", x, x.put(0, 0, 0), Due.NOTHING);
        due.finds("put(1, -1, 0)", x, x.put(1, -1, 0), Due.BEYOND);
        due.is("put(4, 0, 0)", x.put(4, 0, 0), Due.BAD);
        due.is("put(-1, 0, 0)", x.put(-1, 0, 0), Due.BAD);
        due.is("asked() is not told by put()", x.asked(), 0);
    }

    private static void faultOf(String signs, int want) {
        ChairCabinet x = new ChairCabinet();
        Due.write(x, 2, signs);
        due.is("fault of '" + signs + "'", x.fault(2), want);
        due.is("cabinet of '" + signs + "'", x.cabinet(2) >= 0 ? 1 : x.cabinet(2),
            want == Due.NONE ? 1 : Due.STATE);
    }

    private static void fault() {
        faultOf("", 0);
        faultOf("   ", 3);
        faultOf("r", 1);
        faultOf("  r", 3);
        faultOf("r ", 1);
        faultOf("rm010", 1);
        faultOf("m010", 0);
        faultOf("R0m010", 0);
        faultOf("r0", 2);
        faultOf("r0  ", 4);
        faultOf("r0m", 3);
        faultOf("r0m0", 4);
        faultOf("r0m01", 5);
        faultOf("r0m010", Due.NONE);
        faultOf("   r0   m010   ", Due.NONE);
        faultOf("r7o739", Due.NONE);
        faultOf("r8m010", 1);
        faultOf("r9m010", 1);
        faultOf("r08m010", 2);
        faultOf("r00m010", 2);
        faultOf("r10m010", 2);
        faultOf("r020m010", 3);
        faultOf("r0123456m010", Due.NONE);
        faultOf("r1234567m010", Due.NONE);
        faultOf("r01234567m010", 8);
        faultOf("r0 1m010", 3);
        faultOf("r0 r1m010", 3);
        faultOf("r0r1m010", 2);
        faultOf("r0 x010", 3);
        faultOf("r0M010", 2);
        faultOf("r0!m010", 2);
        faultOf("r0m810", 3);
        faultOf("r0m 10", 3);
        faultOf("r0m000", 4);
        faultOf("r0m040", 4);
        faultOf("r0m0 10", 4);
        faultOf("r0m01 0", 5);
        faultOf("r0m01m", 5);
        faultOf("r0m0100", 6);
        faultOf("r0m010 0", 7);
        faultOf("r0m010r1", 6);
        faultOf("r0m01:", 5);
        faultOf("r0m01/", 5);
        faultOf("r/m010", 1);
        faultOf("r0m010o111l229d337a014y115", Due.NONE);
        faultOf("r0m010o111l229d337a014y115  ", Due.NONE);
        faultOf("r0m010o111l229d337a014y115m010", 26);
        faultOf("r0m010o111l229d337a014y115  m", 28);
        faultOf("r0m010o111l229d337a014y1159", 26);
        faultOf("r0\tm010", 2);
        faultOf("r0m010" + (char) 0xA0, 6);
        faultOf((char) (256 - 142) + "0m010", Due.NONE);
        faultOfWhatStoodBehind();
        faultOfFullTexts();
        ChairCabinet x = new ChairCabinet();
        due.finds("fault(0)", x, x.fault(0), Due.NOTHING);
        due.is("fault(4)", x.fault(4), Due.BAD);
        due.is("fault(-1)", x.fault(-1), Due.BAD);
    }

    /** What an earlier, longer TEXT had at a place that there is no more does not count. */
    private static void faultOfWhatStoodBehind() {
        String signs = "  r03  m010  o120";
        for (int size = 0; size < signs.length(); size++) {
            ChairCabinet x = new ChairCabinet();
            Due.write(x, 0, signs);
            Due.write(x, 0, signs.substring(0, size));
            boolean whole = size == 11 || size == 12 || size == 13;
            due.is("fault of the first " + size, x.fault(0), whole ? Due.NONE : size);
        }
    }

    private static void faultOfFullTexts() {
        String signs = "r03m010";
        for (int size = 0; size <= signs.length(); size++) {
            String ahead = "                                                            ".substring(size);
            faultOf(ahead + signs.substring(0, size), size == 7 ? Due.NONE : 60);
        }
    }

    private static void cabinet() {
        ChairCabinet x = Due.of("r135m120o239");
        due.is("count(0)", x.count(0), 2);
        due.is("count(3)", x.count(3), 3);
        due.is("count(4)", x.count(4), 2 + 8 + 32);
        x.bar();
        x.stop();
        x.take(1);
        x.keep(1);
        Due.write(x, 1, "r0m01");
        due.is("cabinet with a FAULT", x.cabinet(1), Due.STATE);
        due.finds("cabinet(2)", x, x.cabinet(2), Due.NOTHING);
        due.is("cabinet(4)", x.cabinet(4), Due.BAD);
        due.is("cabinet(-1)", x.cabinet(-1), Due.BAD);
        due.is("refused: count(0)", x.count(0), 2);
        due.is("refused: count(2)", x.count(2), 3);
        due.is("refused: count(10)", x.count(10), 1);
        Due.write(x, 3, "r02 m010 m010 m010");
        x.fault(3);
        due.is("fault() leaves the CABINET", x.count(0), 2);
        due.is("cabinet(3)", x.cabinet(3), 3);
        due.is("anew: count(0)", x.count(0), 3);
        due.is("anew: the BAR", x.count(1), 0);
        due.is("anew: DEEDS", x.count(2), 0);
        due.is("anew: IN", x.count(3), 7);
        due.is("anew: CHAIRS", x.count(4), 5);
        due.is("anew: STOPS", x.count(5), 0);
        due.is("anew: kept", x.count(10), 0);
        due.finds("anew: on(1)", x, x.on(1), Due.NOTHING);
        x.text(3, 0);
        due.is("a TEXT may change", x.count(0), 3);
        Due.write(x, 3, "r7m010");
        due.is("a lesser CABINET", x.cabinet(3), 1);
        due.is("a lesser CABINET: IN", x.count(3), 1);
        due.is("a lesser CABINET: CHAIRS", x.count(4), 128);
    }

    private static void ministerIs(ChairCabinet x, int i, int... numbers) {
        for (int what = 0; what < 6; what++) {
            due.tells("minister(" + i + ", " + what + ")", x, x.minister(i, what), 1, numbers[what]);
        }
    }

    private static void minister() {
        ChairCabinet x = Due.of("r04m010o021l036d129a433y712");
        ministerIs(x, 0, 0, 0, 1, 0, 1, 1);
        ministerIs(x, 1, 1, 0, 2, 1, 1, 1);
        ministerIs(x, 2, 2, 0, 3, 16, 1, 3);
        ministerIs(x, 3, 3, 1, 2, 9, 1, 2);
        ministerIs(x, 4, 4, 4, 3, 3, 1, 2);
        ministerIs(x, 5, 5, 7, 1, 2, 1, 1);
        due.is("minister(6, 0)", x.minister(6, 0), Due.BAD);
        due.is("minister(-1, 0)", x.minister(-1, 0), Due.BAD);
        due.is("minister(0, 6)", x.minister(0, 6), Due.BAD);
        due.is("minister(0, -1)", x.minister(0, -1), Due.BAD);
        due.is("asked() behind refusals", x.asked(), 1);
        ChairCabinet y = Due.of("r0o019o118");
        y.stop();
        y.stop();
        ministerIs(y, 0, 1, 0, 1, 9, 1, 0);
        ministerIs(y, 1, 1, 1, 1, 8, 0, 1);
        y = Due.of("r0o019o018");
        y.stop();
        ministerIs(y, 1, 1, 0, 1, 8, 0, 0);
    }

    private static void mark() {
        ChairCabinet x = Due.of("r067o615l220l329d738a713y525");
        due.is("an OLD one's mark", x.mark(0, 1), 3);
        due.is("a LADY's mark", x.mark(1, 2), 1);
        due.is("another LADY's mark", x.mark(2, 2), 0);
        due.is("a DEAF one's mark", x.mark(3, 3), 2);
        due.is("an ALLY's mark as an OLD one", x.mark(4, 1), 2);
        due.is("an ALLY's mark", x.mark(4, 4), 1);
        due.is("a YOUNG one's mark as a DEAF one", x.mark(5, 3), 7);
        due.is("a YOUNG one's mark", x.mark(5, 5), 3);
        due.finds("an OLD one is no ALLY", x, x.mark(0, 4), Due.UNLIKE);
        due.finds("an OLD one is no LADY", x, x.mark(0, 2), Due.UNLIKE);
        due.finds("a DEAF one is not YOUNG", x, x.mark(3, 5), Due.UNLIKE);
        due.finds("an ALLY is not DEAF", x, x.mark(4, 3), Due.UNLIKE);
        due.finds("a YOUNG one is not OLD", x, x.mark(5, 1), Due.UNLIKE);
        due.is("mark(0, 0)", x.mark(0, 0), Due.BAD);
        due.is("mark(0, 6)", x.mark(0, 6), Due.BAD);
        due.is("mark(0, -1)", x.mark(0, -1), Due.BAD);
        due.is("mark(6, 1)", x.mark(6, 1), Due.BAD);
        due.is("mark(-1, 1)", x.mark(-1, 1), Due.BAD);
        x.take(0);
        due.is("a CHAIR fewer: OLD", x.mark(0, 1), 2);
        due.is("a CHAIR fewer: YOUNG", x.mark(5, 5), 2);
        due.is("asked() is not told by mark()", x.asked(), 0);
        ChairCabinet y = Due.of("r0l010l010o019o016d015m018");
        due.is("like CUNNING is not more", y.mark(0, 2), 0);
    }

    private static void markOfOneWhoIsOut() {
        ChairCabinet x = Due.of("r0m019a418m517d626l629");
        x.stop();
        due.is("who is IN", x.count(3), 1);
        due.is("an ALLY who is OUT: nobody IN is near", x.mark(1, 4), 0);
        due.is("an ALLY who is OUT: CHAIRS", x.mark(1, 1), 0);
        due.is("a DEAF one who is OUT, as if IN", x.mark(3, 3), 2);
        due.is("a LADY who is OUT: nobody IN is more CUNNING", x.mark(4, 2), 0);
        for (int n = 0; n < 4; n++) {
            x.bar();
        }
        due.is("an ALLY who is OUT: one who is IN is near", x.mark(1, 4), 1);
        ChairCabinet y = Due.of("r4m415a310a419m535");
        y.stop();
        due.is("who is IN: ALLIES who sit on others", y.count(3), 6);
        due.is("an ALLY at one PLACE with another", y.mark(1, 4), 1);
        ChairCabinet z = Due.of("r0l619l010m018");
        due.is("a LADY: one is more CUNNING", z.mark(1, 2), 1);
        z.stop();
        due.is("who is IN", z.count(3), 2);
        due.is("a LADY: who is OUT has no more CUNNING", z.mark(1, 2), 0);
    }
}
