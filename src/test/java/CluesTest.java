/** Promises 28 to 31: what one can be by where one was, the rule of a band. */
public final class CluesTest {
    private static final Due due = new Due();
    private static final int WALKERS = 1 + 4 + 8 + 32, HOVERERS = 2 + 16;

    public static void main(String[] args) {
        refusals();
        kinds();
        paces();
        places();
        ofOneWhoIsOut();
        tune();
        due.end();
    }

    private static void refused(String what, ChairCabinet x, int i, int r, int want) {
        due.is("kinds: " + what, x.kinds(i, r), want);
        due.is("paces: " + what, x.paces(i, r), want);
        due.is("places: " + what, x.places(i, r), want);
    }

    private static void finds(String what, ChairCabinet x, int finding) {
        due.finds("kinds: " + what, x, x.kinds(0, 1), finding);
        due.finds("paces: " + what, x, x.paces(0, 1), finding);
        due.finds("places: " + what, x, x.places(0, 1), finding);
    }

    private static void refusals() {
        ChairCabinet x = Due.of("r0m010");
        refused("no such MINISTER", x, 1, 0, Due.BAD);
        refused("no such MINISTER", x, -1, 0, Due.BAD);
        refused("no such ROW", x, 0, 6, Due.BAD);
        refused("no such ROW", x, 0, -1, Due.BAD);
        refused("of no CABINET", new ChairCabinet(), 0, 0, Due.BAD);
        finds("no ROW", x, Due.NOTHING);
        Due.fill(x, 1, 1, 2, 3);
        finds("half a pair", x, Due.SIZE);
        Due.fill(x, 1, 99, 2, 3);
        finds("half a pair, ahead of UNLIKE", x, Due.SIZE);
        x.row(1, 18);
        finds("nine pairs", x, Due.SIZE);
        x.row(1, 17);
        finds("eight pairs and a half", x, Due.SIZE);
        int[][] unlike = {{21, 0}, {-1, 0}, {0, 8}, {0, -1}, {Due.HIGH, 0}, {0, Due.LOW}, {0, 0, 21, 0}};
        for (int[] pairs : unlike) {
            Due.fill(x, 1, pairs);
            finds("a number that is none", x, Due.UNLIKE);
        }
        x.row(1, 16);
        due.is("eight pairs", x.kinds(0, 1), 63);
        Due.fill(x, 1, 20, 7);
        due.is("the greatest numbers", x.kinds(0, 1), 0);
        due.is("asked() is not told", x.asked(), 0);
    }

    private static void kinds() {
        ChairCabinet x = Due.of("r2m120o120d730");
        Due.fill(x, 0);
        due.is("by nothing", x.kinds(0, 0), 63);
        Due.fill(x, 0, 0, 1);
        due.is("where one is", x.kinds(0, 0), 63);
        Due.fill(x, 0, 0, 2);
        due.is("where one is not", x.kinds(0, 0), 0);
        Due.fill(x, 0, 1, 3);
        due.is("no CHAIR on the way", x.kinds(0, 0), 63);
        Due.fill(x, 0, 1, 2);
        due.is("7 and 3 more is 2", x.kinds(2, 0), 63);
        Due.fill(x, 0, 2, 5);
        due.is("no CHAIR at 2", x.kinds(2, 0), WALKERS);
        Due.fill(x, 0, 2, 4);
        due.is("a CHAIR at 2", x.kinds(2, 0), HOVERERS);
        Due.fill(x, 0, 2, 4, 2, 5);
        due.is("at two PLACES at once", x.kinds(2, 0), 0);
        Due.fill(x, 0, 20, 1, 2, 5, 0, 1);
        due.is("in any order", x.kinds(1, 0), 63);
        x.nudge(0);
        Due.fill(x, 0, 1, 3);
        due.is("being where one is now", x.kinds(0, 0), HOVERERS);
    }

    private static void paces() {
        ChairCabinet x = Due.of("r27m010o720a710");
        Due.fill(x, 0);
        due.is("by nothing", x.paces(0, 0), 14);
        Due.fill(x, 0, 1, 2);
        due.is("a MINISTER by 2", x.paces(0, 0), 4);
        Due.fill(x, 0, 8, 0);
        due.is("a MINISTER by 8 BARS", x.paces(0, 0), 14);
        Due.fill(x, 0, 4, 4);
        due.is("a MINISTER by 4 BARS", x.paces(0, 0), 2 + 8);
        Due.fill(x, 0, 1, 7);
        due.is("an OLD one who stays", x.paces(1, 0), 2);
        Due.fill(x, 0, 2, 2);
        due.is("an OLD one by 2 and 1", x.paces(1, 0), 4);
        Due.fill(x, 0, 1, 1);
        due.is("an ALLY by 2", x.paces(2, 0), 8);
        Due.fill(x, 0, 1, 5);
        due.is("by none", x.paces(2, 0), 0);
    }

    private static void places() {
        ChairCabinet x = Due.of("r27m030o020");
        Due.fill(x, 0);
        due.is("by nothing", x.places(0, 0), 255);
        Due.fill(x, 0, 0, 5);
        due.is("now", x.places(0, 0), 32);
        Due.fill(x, 0, 1, 1);
        due.is("a MINISTER", x.places(0, 0), 64);
        Due.fill(x, 0, 1, 0);
        due.is("an OLD one: from 6, from 7 by 1", x.places(1, 0), 64 + 128);
        Due.fill(x, 0, 1, 1);
        due.is("an OLD one: not from 7", x.places(1, 0), 0);
        Due.fill(x, 0, 1, 1, 2, 5);
        due.is("at no PLACE", x.places(0, 0), 0);
    }

    private static void ofOneWhoIsOut() {
        ChairCabinet x = Due.of("r0o420");
        x.stop();
        due.is("who is IN", x.count(3), 0);
        Due.fill(x, 0, 2, 0, 3, 1);
        due.is("kinds of one who is OUT", x.kinds(0, 0), HOVERERS);
        due.is("paces of one who is OUT", x.paces(0, 0), 4);
        due.is("places of one who is OUT", x.places(0, 0), 16);
    }

    private static void tuneOf(ChairCabinet x, int want, int next, int... bars) {
        Due.fill(x, 3, bars);
        due.tells("tune", x, x.tune(3), want, next);
    }

    private static void tune() {
        ChairCabinet x = new ChairCabinet();
        tuneOf(x, 1, 5, 5);
        tuneOf(x, 1, -2, -2, -2, -2);
        tuneOf(x, 2, 1, 1, 2);
        tuneOf(x, 2, 2, 1, 2, 1);
        tuneOf(x, 3, 1, 1, 1, 2);
        tuneOf(x, 3, 2, 1, 1, 2, 1, 1);
        tuneOf(x, 3, 2, 1, 2, 1, 1);
        tuneOf(x, 4, 1, 1, 2, 2, 2);
        tuneOf(x, 10, 1, 1, 2, 3, 4, 5, 6, 7, 8, 9, 10);
        tuneOf(x, 10, 2, 1, 2, 3, 4, 5, 6, 7, 8, 9, 10, 1);
        // With NONE, asked() is still what the last lay() told: 0.
        tuneOf(x, Due.NONE, 0, 1, 2, 3, 4, 5, 6, 7, 8, 9, 10, 11);
        tuneOf(x, Due.NONE, 0, 1, 1, 1, 1, 1, 1, 1, 1, 1, 1, 2);
        tuneOf(x, Due.NONE, 0, 1, 2, 3, 4, 5, 6, 7, 8, 9, 10, 11, 1, 2, 3, 4, 5, 6, 7, 8, 9, 10, 11);
        x.row(4, 40);
        due.tells("forty of 0", x, x.tune(4), 1, 0);
        x.row(4, 0);
        due.finds("tune of an empty ROW", x, x.tune(4), Due.SIZE);
        due.finds("tune(5)", x, x.tune(5), Due.NOTHING);
        due.is("tune(6)", x.tune(6), Due.BAD);
        due.is("tune(-1)", x.tune(-1), Due.BAD);
    }
}
