/** Promises 1 to 7: a new object, ROWS. */
public final class RowsTest {
    private static final Due due = new Due();

    public static void main(String[] args) {
        newObject();
        row();
        layAndAt();
        tear();
        copy();
        mean();
        due.end();
    }

    private static void newObject() {
        ChairCabinet x = new ChairCabinet();
        for (int what = 0; what <= 10; what++) {
            due.is("new count(" + what + ")", x.count(what), 0);
        }
        for (int r = 0; r <= 5; r++) {
            due.finds("new at(" + r + ", 0)", x, x.at(r, 0), Due.NOTHING);
        }
        for (int t = 0; t <= 3; t++) {
            due.finds("new fault(" + t + ")", x, x.fault(t), Due.NOTHING);
        }
        for (int k = 0; k <= 2; k++) {
            due.finds("new on(" + k + ")", x, x.on(k), Due.NOTHING);
        }
        due.is("new minister(0, 0)", x.minister(0, 0), Due.BAD);
    }

    private static void row() {
        ChairCabinet x = new ChairCabinet();
        due.is("row(0, 0)", x.row(0, 0), 0);
        due.row("row(0, 0)", x, 0);
        due.is("row(5, 40)", x.row(5, 40), 40);
        due.row("row(5, 40)", x, 5, new int[40]);
        due.is("row(5, 41)", x.row(5, 41), Due.BAD);
        due.row("behind row(5, 41)", x, 5, new int[40]);
        due.is("row(-1, 1)", x.row(-1, 1), Due.BAD);
        due.is("row(6, 1)", x.row(6, 1), Due.BAD);
        due.is("row(6, -1)", x.row(6, -1), Due.BAD);
        due.is("row(LOW, LOW)", x.row(Due.LOW, Due.LOW), Due.BAD);
        due.is("row(0, HIGH)", x.row(0, Due.HIGH), Due.BAD);
        due.finds("row(5, -1)", x, x.row(5, -1), Due.SIZE);
        due.finds("row(5, LOW)", x, x.row(5, Due.LOW), Due.SIZE);
        due.row("behind row(5, -1)", x, 5, new int[40]);
        Due.fill(x, 1, 7, 8, 9);
        due.is("row(1, 2) anew", x.row(1, 2), 2);
        due.row("row(1, 2) anew", x, 1, 0, 0);
        due.is("row(1, 3) anew", x.row(1, 3), 3);
        due.row("row(1, 3) anew", x, 1, 0, 0, 0);
        due.is("count(8)", x.count(8), 3);
    }

    private static void layAndAt() {
        ChairCabinet x = new ChairCabinet();
        x.row(2, 3);
        due.tells("lay(2, 0, 5)", x, x.lay(2, 0, 5), 1, 0);
        due.tells("lay(2, 0, LOW)", x, x.lay(2, 0, Due.LOW), 1, 5);
        due.tells("lay(2, 0, HIGH)", x, x.lay(2, 0, Due.HIGH), 1, Due.LOW);
        due.tells("lay(2, 2, -3)", x, x.lay(2, 2, -3), 1, 0);
        due.tells("at(2, 0)", x, x.at(2, 0), 1, Due.HIGH);
        due.tells("at(2, 1)", x, x.at(2, 1), 1, 0);
        due.tells("at(2, 2)", x, x.at(2, 2), 1, -3);
        due.is("lay(-1, 0, 1)", x.lay(-1, 0, 1), Due.BAD);
        due.is("lay(6, 0, 1)", x.lay(6, 0, 1), Due.BAD);
        due.is("at(-1, 0)", x.at(-1, 0), Due.BAD);
        due.is("at(6, 9)", x.at(6, 9), Due.BAD);
        due.finds("lay(3, 0, 1)", x, x.lay(3, 0, 1), Due.NOTHING);
        due.finds("lay(2, 3, 1)", x, x.lay(2, 3, 1), Due.BEYOND);
        due.finds("at(3, -1)", x, x.at(3, -1), Due.NOTHING);
        due.finds("at(2, 3)", x, x.at(2, 3), Due.BEYOND);
        due.finds("lay(3, -1, 1)", x, x.lay(3, -1, 1), Due.NOTHING);
        due.finds("lay(2, -1, 1)", x, x.lay(2, -1, 1), Due.BEYOND);
        due.finds("lay(2, HIGH, 1)", x, x.lay(2, Due.HIGH, 1), Due.BEYOND);
        due.finds("at(2, LOW)", x, x.at(2, Due.LOW), Due.BEYOND);
        due.is("asked() behind refusals", x.asked(), -3);
        due.row("behind refusals", x, 2, Due.HIGH, 0, -3);
    }

    private static void tear() {
        ChairCabinet x = new ChairCabinet();
        x.row(4, 2);
        due.is("tear(4)", x.tear(4), 1);
        due.finds("tear(4) again", x, x.tear(4), Due.NOTHING);
        due.finds("at(4, 0) torn", x, x.at(4, 0), Due.NOTHING);
        due.is("tear(-1)", x.tear(-1), Due.BAD);
        due.is("tear(6)", x.tear(6), Due.BAD);
        due.is("count(8)", x.count(8), 0);
    }

    private static void copy() {
        ChairCabinet x = new ChairCabinet();
        Due.fill(x, 0, 1, 2, 3, 4, 5);
        x.row(1, 3);
        due.is("copy(0, 1, 1, 0, 3)", x.copy(0, 1, 1, 0, 3), 1);
        due.row("copy to another", x, 1, 2, 3, 4);
        due.row("copied from", x, 0, 1, 2, 3, 4, 5);
        due.is("copy(0, 0, 0, 1, 4)", x.copy(0, 0, 0, 1, 4), 1);
        due.row("copy up in itself", x, 0, 1, 1, 2, 3, 4);
        due.is("copy(0, 2, 0, 0, 3)", x.copy(0, 2, 0, 0, 3), 1);
        due.row("copy down in itself", x, 0, 2, 3, 4, 3, 4);
        due.is("copy(0, 5, 1, 3, 0)", x.copy(0, 5, 1, 3, 0), 1);
        due.finds("copy(0, 6, 1, 3, 0)", x, x.copy(0, 6, 1, 3, 0), Due.BEYOND);
        due.finds("copy(0, 5, 1, 4, 0)", x, x.copy(0, 5, 1, 4, 0), Due.BEYOND);
        due.finds("copy(0, -1, 1, 0, 0)", x, x.copy(0, -1, 1, 0, 0), Due.BEYOND);
        due.finds("copy(0, 0, 1, -1, 0)", x, x.copy(0, 0, 1, -1, 0), Due.BEYOND);
        due.finds("copy(0, 3, 1, 0, 3)", x, x.copy(0, 3, 1, 0, 3), Due.BEYOND);
        due.finds("copy(0, 0, 1, 1, 3)", x, x.copy(0, 0, 1, 1, 3), Due.BEYOND);
        due.finds("copy(0, 1, 1, 1, HIGH)", x, x.copy(0, 1, 1, 1, Due.HIGH), Due.BEYOND);
        due.finds("copy(0, HIGH, 1, HIGH, HIGH)", x,
            x.copy(0, Due.HIGH, 1, Due.HIGH, Due.HIGH), Due.BEYOND);
        due.finds("copy(0, LOW, 1, LOW, 1)", x, x.copy(0, Due.LOW, 1, Due.LOW, 1), Due.BEYOND);
        due.finds("copy(0, 0, 2, 0, 1)", x, x.copy(0, 0, 2, 0, 1), Due.NOTHING);
        due.finds("copy(2, 0, 0, 0, 1)", x, x.copy(2, 0, 0, 0, 1), Due.NOTHING);
        due.finds("copy(2, 0, 0, -1, 1)", x, x.copy(2, 0, 0, -1, 1), Due.NOTHING);
        due.finds("copy(2, 0, 3, 0, -1)", x, x.copy(2, 0, 3, 0, -1), Due.SIZE);
        due.finds("copy(0, 9, 1, 9, LOW)", x, x.copy(0, 9, 1, 9, Due.LOW), Due.SIZE);
        due.is("copy(-1, 0, 1, 0, -1)", x.copy(-1, 0, 1, 0, -1), Due.BAD);
        due.is("copy(0, 0, 6, 0, -1)", x.copy(0, 0, 6, 0, -1), Due.BAD);
        due.row("behind refusals", x, 0, 2, 3, 4, 3, 4);
        due.row("behind refusals", x, 1, 2, 3, 4);
        x.row(5, 0);
        due.is("copy(5, 0, 5, 0, 0)", x.copy(5, 0, 5, 0, 0), 1);
    }

    private static void mean() {
        ChairCabinet x = new ChairCabinet();
        Due.fill(x, 0, 1, 2, 5);
        due.tells("mean of 1 2 5", x, x.mean(0), 1, 2);
        Due.fill(x, 0, 1, 2, 2);
        due.tells("mean of 1 2 2", x, x.mean(0), 1, 1);
        Due.fill(x, 0, -1, -2, -2);
        due.tells("mean of -1 -2 -2 is cut", x, x.mean(0), 1, -1);
        Due.fill(x, 0, Due.HIGH, Due.HIGH, Due.HIGH);
        due.tells("mean of great ones", x, x.mean(0), 1, Due.HIGH);
        Due.fill(x, 0, Due.LOW, Due.LOW);
        due.tells("mean of small ones", x, x.mean(0), 1, Due.LOW);
        x.row(1, 0);
        due.finds("mean of none", x, x.mean(1), Due.NOUGHT);
        due.finds("mean(2)", x, x.mean(2), Due.NOTHING);
        due.is("mean(6)", x.mean(6), Due.BAD);
        due.is("mean(-1)", x.mean(-1), Due.BAD);
        due.is("asked() behind refusals", x.asked(), Due.LOW);
        due.is("upper() is not told by mean()", x.upper(), 0);
        due.is("lower() is not told by mean()", x.lower(), 1);
    }
}
