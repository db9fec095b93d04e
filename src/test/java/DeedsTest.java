import java.util.ArrayList;
import java.util.List;

/** Promises 14 to 20: DEEDS, undone, kept, gone on from. */
public final class DeedsTest {
    private static final Due due = new Due();

    public static void main(String[] args) {
        withoutMinisters();
        bar();
        whoLooksFirst();
        howFarOneLooks();
        alliesSitOnOthers();
        deafOnesWalkOn();
        take();
        nudge();
        full();
        undo();
        keepAndOn();
        due.end();
    }

    private static void withoutMinisters() {
        ChairCabinet x = new ChairCabinet();
        due.is("bar()", x.bar(), Due.STATE);
        due.is("stop()", x.stop(), Due.STATE);
        due.is("take(0)", x.take(0), Due.STATE);
        due.is("take(8)", x.take(8), Due.BAD);
        due.is("nudge(0)", x.nudge(0), Due.BAD);
        due.is("undo(0)", x.undo(0), 0);
        due.is("undo(1)", x.undo(1), Due.BAD);
        due.is("keep(0)", x.keep(0), Due.STATE);
        due.is("keep(3)", x.keep(3), Due.BAD);
        due.finds("on(0)", x, x.on(0), Due.NOTHING);
        due.is("on(3)", x.on(3), Due.BAD);
    }

    private static void placesAre(String what, ChairCabinet x, int... places) {
        for (int i = 0; i < places.length; i++) {
            due.tells(what + ": PLACE of " + i, x, x.minister(i, 1), 1, places[i]);
        }
    }

    private static void bar() {
        ChairCabinet x = Due.of("r06m630o620l610d620a420y530");
        due.is("bar() 1", x.bar(), 1);
        placesAre("a BAR", x, 1, 7, 7, 0, 6, 0);
        due.is("bar() 2", x.bar(), 2);
        placesAre("two BARS", x, 4, 1, 0, 2, 7, 3);
        ChairCabinet y = Due.of("r0o010m410");
        y.stop();
        y.bar();
        placesAre("who hovers, who is OUT", y, 0, 4);
        due.is("DEEDS", y.count(2), 2);
        due.is("STOPS", y.count(5), 1);
        due.is("BARS", y.count(1), 1);
    }

    private static void stopIs(String signs, int in, int... places) {
        ChairCabinet x = Due.of(signs);
        due.is("stop() of " + signs, x.stop(), Integer.bitCount(in));
        due.is("who is IN: " + signs, x.count(3), in);
        placesAre(signs, x, places);
        due.is("CHAIRS stay: " + signs, x.count(1), 0);
    }

    private static void whoLooksFirst() {
        stopIs("r2m215m216", 2, 2, 2);
        stopIs("r2m215m215", 1, 2, 2);
        stopIs("r2m219l210", 2, 2, 2);
        stopIs("r2l210m219l211", 4, 2, 2, 2);
        stopIs("r23m215m216m217", 6, 2, 3, 2);
    }

    private static void howFarOneLooks() {
        stopIs("r3m210", 1, 3);
        stopIs("r4m210", 0, 2);
        stopIs("r4l210", 0, 2);
        stopIs("r4o210", 1, 4);
        stopIs("r5o210", 0, 2);
        stopIs("r4a210", 1, 4);
        stopIs("r5a210", 0, 2);
        stopIs("r34o210", 1, 3);
        stopIs("r0m710", 1, 0);
        stopIs("r1o710", 1, 1);
        stopIs("r1y210", 1, 1);
        stopIs("r2y210", 1, 2);
        stopIs("r06y710", 1, 0);
    }

    private static void alliesSitOnOthers() {
        stopIs("r2m219a210", 3, 2, 2);
        stopIs("r4m419a210", 3, 4, 4);
        stopIs("r4m419o210", 1, 4, 2);
        stopIs("r5m519a210", 1, 5, 2);
        stopIs("r34m319a210", 3, 3, 4);
        stopIs("r34m319m418a210", 7, 3, 4, 3);
        stopIs("r2m219a211a210", 7, 2, 2, 2);
        // One on whom an ALLY sits keeps the CHAIR, and nobody else finds it free.
        stopIs("r2m219a218m211", 3, 2, 2, 2);
        ChairCabinet x = Due.of("r2m219a218");
        due.is("stop() 1", x.stop(), 2);
        due.is("stop() 2: nobody sits yet of this STOP", x.stop(), 2);
        due.is("STOPS", x.count(5), 2);
    }

    private static void deafOnesWalkOn() {
        stopIs("r4d220", 1, 4);
        stopIs("r5d220", 1, 5);
        stopIs("r23d220", 0, 4);
        stopIs("r6d220", 0, 4);
        stopIs("r0d730", 0, 2);
        stopIs("r3y320", 1, 3);
        stopIs("r35y320", 1, 5);
        stopIs("r3m319d210", 1, 3, 3);
        ChairCabinet x = Due.of("r2y320y319");
        x.stop();
        placesAre("a YOUNG one who is OUT came on", x, 5, 2);
        x.stop();
        x.bar();
        placesAre("who is OUT stays", x, 5, 3);
        due.is("who is IN", x.count(3), 2);
    }

    private static void take() {
        ChairCabinet x = Due.of("r257m210");
        due.is("take(-1)", x.take(-1), Due.BAD);
        due.is("take(8)", x.take(8), Due.BAD);
        due.is("take(0): no CHAIR", x.take(0), Due.STATE);
        due.is("take(5)", x.take(5), 2);
        due.is("take(5) again", x.take(5), Due.STATE);
        due.is("CHAIRS", x.count(4), 4 + 128);
        due.is("take(2)", x.take(2), 1);
        due.is("take(7), the last one", x.take(7), Due.STATE);
        due.is("DEEDS", x.count(2), 2);
        due.is("stop() without it", x.stop(), 0);
        ChairCabinet y = Due.of("r01234567".substring(0, 7) + "7m010");
        int[] order = {7, 0, 5, 1, 4, 3};
        for (int k = 0; k < order.length; k++) {
            due.is("take(" + order[k] + ")", y.take(order[k]), 6 - k);
        }
        due.is("the CHAIR that stays", y.count(4), 4);
        y.undo(1);
        due.is("without 7", y.count(4), 127 - 64);
        due.is("nobody was nudged", y.where(0, 0), 0);
    }

    private static void nudge() {
        ChairCabinet x = Due.of("r0m730o720");
        due.is("nudge(0)", x.nudge(0), 0);
        due.is("nudge(0)", x.nudge(0), 1);
        due.is("nudge(1)", x.nudge(1), 0);
        due.is("nudge(2)", x.nudge(2), Due.BAD);
        due.is("nudge(-1)", x.nudge(-1), Due.BAD);
        due.is("DEEDS", x.count(2), 3);
        due.is("BARS", x.count(1), 0);
        x.stop();
        due.is("nudge(0), OUT", x.nudge(0), Due.STATE);
        due.is("nudge(1), IN", x.nudge(1), 1);
    }

    private static void full() {
        ChairCabinet x = Due.of("r01m010m511");
        x.stop();
        for (int deed = 1; deed < 40; deed++) {
            due.is("bar() " + deed, x.bar(), deed);
        }
        due.is("bar(), full", x.bar(), Due.FULL);
        due.is("stop(), full", x.stop(), Due.FULL);
        due.is("take(0), full", x.take(0), Due.FULL);
        due.is("take(2), full", x.take(2), Due.STATE);
        due.is("take(9), full", x.take(9), Due.BAD);
        due.is("nudge(0), full", x.nudge(0), Due.FULL);
        due.is("nudge(1), full", x.nudge(1), Due.STATE);
        due.is("nudge(2), full", x.nudge(2), Due.BAD);
        due.is("BARS", x.count(1), 39);
        due.is("CHAIRS", x.count(4), 3);
        due.is("keep(0), full", x.keep(0), 40);
        due.is("undo(39)", x.undo(39), 1);
        due.is("bar() again", x.bar(), 39);
        due.is("cabinet() anew", x.cabinet(0), 2);
        due.is("bar() anew", x.bar(), 1);
        due.is("undo(0)", x.undo(0), 1);
        for (int deed = 0; deed < 39; deed++) {
            x.bar();
        }
        due.is("stop() is the last one", x.stop(), 1);
        x.undo(39);
        due.is("take() is the last one", x.take(0), 1);
        x.undo(39);
        due.is("nudge() is the last one", x.nudge(0), 0);
        due.is("40 DEEDS", x.count(2), 40);
    }

    private static String stateOf(ChairCabinet x) {
        StringBuilder all = new StringBuilder();
        for (int what = 0; what <= 7; what++) {
            all.append(x.count(what)).append(' ');
        }
        for (int i = 0; i < x.count(0); i++) {
            x.minister(i, 1);
            all.append(x.asked()).append(' ');
        }
        return all.toString();
    }

    private static final int SOME_DEEDS = 12;

    private static void doSome(ChairCabinet x, int deed) {
        int[] deeds = {0, 20, 0, 1, 13, 0, 1, 10, 0, 0, 1, 14};
        int what = deeds[deed];
        int answer = what == 0 ? x.bar() : what == 1 ? x.stop() : what < 20 ? x.take(what - 10)
            : x.nudge(what - 20);
        due.is("deed " + deed + " is done", answer >= 0 ? 1 : 0, 1);
    }

    private static void undo() {
        String signs = "r01346m023o115l229d437a114y630";
        List<String> states = new ArrayList<>();
        ChairCabinet x = Due.of(signs);
        states.add(stateOf(x));
        for (int deed = 0; deed < SOME_DEEDS; deed++) {
            doSome(x, deed);
            states.add(stateOf(x));
        }
        for (int n = 0; n <= SOME_DEEDS; n++) {
            ChairCabinet y = Due.of(signs);
            for (int deed = 0; deed < SOME_DEEDS; deed++) {
                doSome(y, deed);
            }
            due.is("undo(" + (SOME_DEEDS + 1) + ")", y.undo(SOME_DEEDS + 1), Due.BAD);
            due.is("undo(-1)", y.undo(-1), Due.BAD);
            due.is("undo(" + n + ")", y.undo(n), SOME_DEEDS - n);
            due.is("as ahead of " + n, stateOf(y).equals(states.get(n)) ? 1 : 0, 1);
            due.is("undo(" + n + ") again", y.undo(n), 0);
        }
    }

    private static void keepAndOn() {
        ChairCabinet x = Due.of("r01346m023o115l229d437a114y630");
        due.is("keep(2) at first", x.keep(2), 0);
        String first = stateOf(x);
        for (int deed = 0; deed < 5; deed++) {
            doSome(x, deed);
        }
        String fifth = stateOf(x);
        due.is("keep(0)", x.keep(0), 5);
        due.is("keep(-1)", x.keep(-1), Due.BAD);
        due.is("keep(3)", x.keep(3), Due.BAD);
        due.is("kept ones", x.count(10), 2);
        for (int deed = 5; deed < 9; deed++) {
            doSome(x, deed);
        }
        String ninth = stateOf(x);
        due.is("on(-1)", x.on(-1), Due.BAD);
        due.is("on(3)", x.on(3), Due.BAD);
        due.finds("on(1)", x, x.on(1), Due.NOTHING);
        due.is("refused: as it was", stateOf(x).equals(ninth) ? 1 : 0, 1);
        due.is("keep(1)", x.keep(1), 9);
        due.is("on(0)", x.on(0), 5);
        due.is("on(0): as kept", stateOf(x).equals(fifth) ? 1 : 0, 1);
        due.is("undo(0) behind on(0)", x.undo(0), 5);
        due.is("as at first", stateOf(x).equals(first) ? 1 : 0, 1);
        due.is("on(1)", x.on(1), 9);
        due.is("on(1): as kept", stateOf(x).equals(ninth) ? 1 : 0, 1);
        due.is("on(2)", x.on(2), 0);
        due.is("on(2): as kept", stateOf(x).equals(first) ? 1 : 0, 1);
        due.is("on(0) again", x.on(0), 5);
        due.is("keep(2) anew", x.keep(2), 5);
        due.is("kept ones", x.count(10), 3);
        x.bar();
        due.is("on(2) anew", x.on(2), 5);
        due.is("on(2) anew: as kept", stateOf(x).equals(fifth) ? 1 : 0, 1);
        keptAheadOfOthers();
        due.is("cabinet(0)", x.cabinet(0), 6);
        due.finds("on(2) of another CABINET", x, x.on(2), Due.NOTHING);
    }

    private static void keptAheadOfOthers() {
        ChairCabinet x = Due.of("r04m010");
        x.nudge(0);
        x.keep(0);
        x.undo(0);
        x.bar();
        x.bar();
        x.keep(1);
        due.is("on(0)", x.on(0), 1);
        due.is("the NUDGE, not a BAR", x.count(1), 0);
        due.is("the PLACE", x.where(0, 0), 1);
        due.is("on(1)", x.on(1), 2);
        due.is("two BARS", x.count(1), 2);
    }
}
