/** Compares answers with those that are due, and ends a test with exit code 1 if one was not. */
final class Due {
    static final int BAD = -1, FULL = -2, FINDING = -3, STATE = -4, NONE = -9;
    static final int NOTHING = 1, BEYOND = 2, UNLIKE = 3, NOUGHT = 4, SIZE = 5;
    static final int LOW = Integer.MIN_VALUE, HIGH = Integer.MAX_VALUE;

    private int asked = 0;
    private int wrong = 0;

    void is(String call, long got, long want) {
        asked++;
        if (got != want) {
            wrong++;
            System.out.println(call + " answered " + got + ", due is " + want);
        }
    }

    /** A refusal with a FINDING: the call's answer, and which one finding() tells then. */
    void finds(String call, ChairCabinet x, long got, int finding) {
        is(call, got, FINDING);
        is("finding() behind " + call, x.finding(), finding);
    }

    /** A call that tells by asked(). */
    void tells(String call, ChairCabinet x, long got, long want, int asked) {
        is(call, got, want);
        is("asked() behind " + call, x.asked(), asked);
    }

    void end() {
        System.out.println(asked + " answers, " + wrong + " not as due");
        if (wrong != 0 || asked == 0) {
            System.exit(1);
        }
    }

    static void write(ChairCabinet x, int t, String signs) {
        x.text(t, signs.length());
        for (int i = 0; i < signs.length(); i++) {
            x.put(t, i, signs.charAt(i));
        }
    }

    static ChairCabinet of(String signs) {
        ChairCabinet x = new ChairCabinet();
        write(x, 0, signs);
        if (x.cabinet(0) < 0) {
            System.out.println("no CABINET: " + signs);
            System.exit(1);
        }
        return x;
    }

    static void fill(ChairCabinet x, int r, int... values) {
        x.row(r, values.length);
        for (int i = 0; i < values.length; i++) {
            x.lay(r, i, values[i]);
        }
    }

    static String rowOf(ChairCabinet x, int r, int size) {
        StringBuilder all = new StringBuilder();
        for (int i = 0; i < size; i++) {
            all.append(x.at(r, i) == 1 ? x.asked() + " " : "? ");
        }
        return all.append(x.at(r, size) == 1 ? "more" : "end").toString();
    }

    void row(String what, ChairCabinet x, int r, int... values) {
        StringBuilder want = new StringBuilder();
        for (int value : values) {
            want.append(value).append(' ');
        }
        String got = rowOf(x, r, values.length);
        asked++;
        if (!got.equals(want + "end")) {
            wrong++;
            System.out.println(what + ": ROW is " + got + ", due is " + want + "end");
        }
    }
}
