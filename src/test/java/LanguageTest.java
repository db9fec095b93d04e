/** What the Terms say of the language of a CABINET and its FAULTS. */
public final class LanguageTest {
    private static final String SIX = "m010o121l232d313a424y535";

    public static void main(String[] args) {
        Due.run(LanguageTest.class);
    }

    /** The FAULT of a TEXT; NONE makes a CABINET of it, too, and any other none. */
    private static void fault(Due due, String signs, int want) {
        Run run = Run.anew().text(1, signs);
        due.is("fault of '" + signs + "'", run.made().call("fault(1)"), want);
        long cabinet = run.made().call("cabinet(1)");
        due.is("a CABINET of '" + signs + "'", cabinet > 0 ? 1 : cabinet, want == Due.NONE ? 1 : Due.STATE);
    }

    /** Each of the 256 bytes at a place of a TEXT: the told ones don't end it, all others are its FAULT. */
    private static void faultOfEachByte(Due due, String signs, int place, String within) {
        Run run = Run.anew().text(0, signs);
        for (int v = -128; v <= 127; v++) {
            long fault = run.then("put(0, " + place + ", " + v + ")").made().call("fault(0)");
            boolean goesOn = v > 0 && within.indexOf((char) v) >= 0;
            due.is("byte " + v + " at " + place + " of '" + signs + "': a FAULT there", fault == place ? 1 : 0,
                goesOn ? 0 : 1);
        }
    }

    @Says(of = 0, words = "A CABINET (without MINISTERS, CHAIRS at first)")
    static void cabinetHasNobodyAtFirst(Due due) {
        due.is(Run.anew(), "count(0)", 0);
        due.is(Run.anew(), "count(4)", 0);
        due.is(Run.anew().text(0, "r0m010"), "count(0)", 0);
        due.is(Run.anew().text(0, "r0m010").then("fault(0)"), "count(4)", 0);
        due.is(Run.of("r0m010"), "count(0)", 1);
        due.is(Run.of("r0m010"), "count(4)", 1);
    }

    @Says(of = 0, words = {"is a TEXT: blanks (32) ahead, between, behind as many as wanted"})
    static void blanksAheadBetweenBehind(Due due) {
        String ten = "          ";
        fault(due, "r0m010o121", Due.NONE);
        fault(due, " r0m010o121", Due.NONE);
        fault(due, "r0 m010o121", Due.NONE);
        fault(due, "r0m010 o121", Due.NONE);
        fault(due, "r0m010o121 ", Due.NONE);
        fault(due, " r0 m010 o121 ", Due.NONE);
        fault(due, ten + "r0" + ten + "m010" + ten + "o121" + ten, Due.NONE);
        fault(due, ten.repeat(5) + "r012m010o1", 60);
        fault(due, ten.repeat(5) + "r012" + "  m010", Due.NONE);
        fault(due, "r0m010" + ten.repeat(5) + "    ", Due.NONE);
        Played x = Run.of(ten + "r27" + ten + "m010" + ten + "o121" + ten).made();
        due.is(x, "count(0)", 2);
        due.is(x, "count(4)", 4 + 128);
    }

    @Says(of = 0, words = "blanks (32) ahead, between, behind")
    static void otherSignsAreNoBlanks(Due due) {
        faultOfEachByte(due, "?r0m010", 0, " r");
        faultOfEachByte(due, "r0?m010", 2, " 1234567molday");
        faultOfEachByte(due, "r0m010?o121", 6, " molday");
        faultOfEachByte(due, "r0m010o121?", 10, " molday");
    }

    @Says(of = 0, words = "none within items (an item: a letter and all its figures)")
    static void noBlanksWithinItems(Due due) {
        fault(due, "r 0m010", 1);
        fault(due, "r  m010", 1);
        fault(due, "r0m 010", 3);
        fault(due, "r0m0 10", 4);
        fault(due, "r0m01 0", 5);
        fault(due, "r0m010o1 21", 8);
        fault(due, " r0 m010 o12 1", 12);
    }

    @Says(of = 0, words = "First r (114)")
    static void firstComesR(Due due) {
        fault(due, "m010", 0);
        fault(due, "0m010", 0);
        fault(due, "m010r0", 0);
        fault(due, "  m010 r0", 2);
        fault(due, "R0m010", 0);
        faultOfEachByte(due, "?0m010", 0, " r");
        faultOfEachByte(due, " ?0m010", 1, " r");
        fault(due, "r0r1m010", 2);
        fault(due, "r0 r1m010", 3);
        fault(due, "r0m010r1", 6);
    }

    @Says(of = 0, words = "and 1 to 7 figures")
    static void chairsAre1To7(Due due) {
        fault(due, "rm010", 1);
        fault(due, "r", 1);
        for (int many = 1; many <= 7; many++) {
            fault(due, "r" + "0123456".substring(0, many) + "m010", Due.NONE);
            fault(due, "r" + "1234567".substring(7 - many) + " m010", Due.NONE);
            due.is(Run.of("r" + "0123456".substring(0, many) + "m010"), "count(4)", (1 << many) - 1);
            due.is(Run.of("r" + "1234567".substring(7 - many) + "m010"), "count(4)", 256 - (1 << 8 - many));
        }
        fault(due, "r01234567m010", 8);
    }

    @Says(of = 0, words = "figures 0 .. 7")
    static void chairsAreAtPlaces0To7(Due due) {
        for (int place = 0; place <= 7; place++) {
            fault(due, "r" + place + "m010", Due.NONE);
            due.is(Run.of("r" + place + "m010"), "count(4)", 1 << place);
        }
        fault(due, "r8m010", 1);
        fault(due, "r9m010", 1);
        fault(due, "r08m010", 2);
        fault(due, "r09m010", 2);
        fault(due, "r079m010", 3);
        faultOfEachByte(due, "r?m010", 1, "01234567");
    }

    @Says(of = 0, words = {"each once, rising: the PLACES of CHAIRS", "or not above the one ahead"})
    static void chairsAreRising(Due due) {
        for (int ahead = 0; ahead <= 7; ahead++) {
            for (int place = 0; place <= 7; place++) {
                fault(due, "r" + ahead + place + "m010", place > ahead ? Due.NONE : 2);
            }
        }
        fault(due, "r020m010", 3);
        fault(due, "r0133m010", 4);
        fault(due, "r0132m010", 4);
        fault(due, "r00", 2);
        fault(due, "r0123455m010", 7);
    }

    @Says(of = 0, words = "Then MINISTERS (1 to 6; 0, 1, .. as they come)")
    static void ministersAre1To6(Due due) {
        fault(due, "r0", 2);
        fault(due, "r0  ", 4);
        for (int many = 1; many <= 6; many++) {
            fault(due, "r0" + SIX.substring(0, 4 * many), Due.NONE);
            Played x = Run.of("r0" + SIX.substring(0, 4 * many)).made();
            due.is(x, "count(0)", many);
            for (int i = 0; i < many; i++) {
                due.tells(x, "minister(" + i + ", 0)", 1, i);
            }
        }
        fault(due, "r0" + SIX + "m010", 26);
    }

    @Says(of = 0, words = {"a letter, the PLACE", "KINDS of MINISTERS and letters: 0 MINISTER (m, 109)",
        "1 OLD (o, 111", "2 LADY (l, 108", "3 DEAF (d, 100", "4 ALLY (a, 97", "5 YOUNG (y, 121"})
    static void lettersOfTheKinds(Due due) {
        int[] letters = {109, 111, 108, 100, 97, 121};
        for (int kind = 0; kind < letters.length; kind++) {
            Run run = Run.anew().text(0, "r0?010").then("put(0, 2, " + letters[kind] + ")", "cabinet(0)");
            due.tells(run, "minister(0, 0)", 1, kind);
        }
        faultOfEachByte(due, "r0 ?010", 3, " molday");
        faultOfEachByte(due, "r0m010 ?010", 7, " molday");
        faultOfEachByte(due, "r0?010", 2, " 1234567molday");
    }

    @Says(of = 0, words = "the PLACE (0 .. 7)")
    static void placesOfMinisters(Due due) {
        for (int place = 0; place <= 7; place++) {
            due.tells(Run.of("r0m" + place + "10"), "minister(0, 1)", 1, place);
        }
        fault(due, "r0m810", 3);
        fault(due, "r0m910", 3);
        faultOfEachByte(due, "r0m?10", 3, "01234567");
    }

    @Says(of = 0, words = "PACE (1 .. 3)")
    static void pacesOfMinisters(Due due) {
        for (int pace = 1; pace <= 3; pace++) {
            due.tells(Run.of("r0m0" + pace + "0"), "minister(0, 2)", 1, pace);
        }
        fault(due, "r0m000", 4);
        fault(due, "r0m040", 4);
        faultOfEachByte(due, "r0m0?0", 4, "123");
    }

    @Says(of = 0, words = "CUNNING (0 .. 9)")
    static void cunningsOfMinisters(Due due) {
        for (int cunning = 0; cunning <= 9; cunning++) {
            due.tells(Run.of("r0m01" + cunning), "minister(0, 3)", 1, cunning);
        }
        faultOfEachByte(due, "r0m01?", 5, "0123456789");
    }

    @Says(of = 0, words = "one figure each")
    static void oneFigureEach(Due due) {
        fault(due, "r0m0101", 6);
        fault(due, "r0m0100o121", 6);
        fault(due, "r0m010 0", 7);
        fault(due, "r0m0o121", 4);
        fault(due, "r0m01o121", 5);
        fault(due, "r0" + SIX + "0", 26);
    }

    @Says(of = 0, words = {"A FAULT is the first place at which it can't go on so",
        "(a letter, a figure that is none such", ": its place"})
    static void faultIsTheFirstOfSome(Due due) {
        fault(due, "x8x", 0);
        fault(due, "r88m010", 1);
        fault(due, "r0x000x", 2);
        fault(due, "r0m809", 3);
        fault(due, "r0m04:", 4);
        fault(due, "r0m01:x", 5);
        fault(due, "r0m010x810", 6);
        fault(due, "r0m010o841", 7);
    }

    @Says(of = 0, words = {"an eighth CHAIR", ": its place"})
    static void faultOfAnEighthChair(Due due) {
        fault(due, "r0123456m010", Due.NONE);
        fault(due, "r01234567m010", 8);
        fault(due, "r01234567", 8);
        fault(due, "  r01234567 m010", 10);
        // Seven are there already: an eighth figure is a FAULT whichever it is.
        fault(due, "r01234560m010", 8);
        fault(due, "r12345677m010", 8);
        fault(due, "r12345678m010", 8);
    }

    @Says(of = 0, words = {"a seventh MINISTER: its place"})
    static void faultOfASeventhMinister(Due due) {
        fault(due, "r0" + SIX, Due.NONE);
        fault(due, "r0" + SIX + "   ", Due.NONE);
        fault(due, "r0" + SIX + "m", 26);
        fault(due, "r0" + SIX + "y319", 26);
        fault(due, "r0" + SIX + "  o121", 28);
        fault(due, " r0 m010 m010 m010 m010 m010 m010 m010", 34);
    }

    @Says(of = 0, words = "the TEXT's size, if its end comes too early")
    static void faultOfAnEarlyEnd(Due due) {
        String signs = "  r03  m010  o120";
        for (int size = 0; size <= signs.length(); size++) {
            boolean whole = size == 11 || size == 12 || size == 13 || size == 17;
            fault(due, signs.substring(0, size), whole ? Due.NONE : size);
        }
        String six = "r0123456" + SIX;
        for (int size = 0; size <= six.length(); size++) {
            fault(due, six.substring(0, size), size >= 12 && size % 4 == 0 ? Due.NONE : size);
        }
        // What a longer TEXT had behind the end of a shorter one that came anew is not there.
        for (int size = 0; size < 6; size++) {
            due.is(Run.anew().text(0, "r0m010").text(0, "r0m010".substring(0, size)), "fault(0)", size);
            due.is(Run.anew().text(0, "r01234").text(0, "r01234".substring(0, size)), "fault(0)", size);
        }
        String ahead = " ".repeat(60);
        for (int size = 0; size <= 7; size++) {
            fault(due, ahead.substring(size) + "r03m010".substring(0, size), size == 7 ? Due.NONE : 60);
        }
    }

    @Says(of = 0, words = "or there are blanks alone)")
    static void faultOfBlanksAlone(Due due) {
        for (int size : new int[] {0, 1, 2, 59, 60}) {
            due.leaves(Run.anew().then("text(0, " + size + ")"), "fault(0)", size);
            due.refuses(Run.anew().then("text(0, " + size + ")"), Due.STATE, "cabinet(0)");
        }
    }

    @Says(of = 0, words = "(The first blank, or letter, ends the CHAIRS.)")
    static void firstBlankOrLetterEndsTheChairs(Due due) {
        fault(due, "r0 1m010", 3);
        fault(due, "r0 1", 3);
        fault(due, "r0m0101", 6);
        due.is(Run.of("r0 m110"), "count(4)", 1);
        due.is(Run.of("r0m110"), "count(4)", 1);
        due.is(Run.of("r0134  m510"), "count(4)", 1 + 2 + 8 + 16);
        due.is(Run.of("r0134m510"), "count(4)", 1 + 2 + 8 + 16);
    }
}
