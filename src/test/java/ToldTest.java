/** Promises 36 to 42: what is told. */
public final class ToldTest {
    private static final Due due = new Due();

    public static void main(String[] args) {
        asked();
        count();
        findings();
        digest();
        due.end();
    }

    private static void asked() {
        ChairCabinet x = new ChairCabinet();
        due.is("asked() at first", x.asked(), 0);
        due.is("upper() at first", x.upper(), 0);
        due.is("lower() at first", x.lower(), 1);
        Due.write(x, 0, "r024m310o621");
        x.cabinet(0);
        Due.fill(x, 0, 4, 9, 4);
        due.tells("at(0, 1)", x, x.at(0, 1), 1, 9);
        due.tells("tune(0)", x, x.tune(0), 2, 9);
        due.tells("mean(0)", x, x.mean(0), 1, 5);
        due.tells("minister(1, 1)", x, x.minister(1, 1), 1, 6);
        due.tells("sits(0)", x, x.sits(0), 3, 16 + 1);
        due.tells("remove(1, 0)", x, x.remove(1, 0), 1, 1);
        due.tells("lay(0, 1, 2)", x, x.lay(0, 1, 2), 1, 9);
        x.digest();
        due.is("digest(): asked() stays", x.asked(), 9);
        x.where(0, 5);
        x.bars(0);
        x.when(1);
        x.spare(0, 0);
        x.reign(0, 1, 1);
        x.kinds(0, 1);
        x.bribe(0, 1);
        x.odds(0, 1, 6);
        x.mid(1, 6);
        x.lots(3, 5);
        x.bar();
        x.stop();
        x.undo(0);
        x.keep(0);
        x.on(0);
        x.copy(0, 0, 0, 1, 2);
        x.put(0, 0, 114);
        x.mark(1, 1);
        x.count(4);
        x.tear(0);
        due.is("the others: asked() stays", x.asked(), 9);
        x.sits(21);
        x.remove(9, 0);
        x.minister(0, 9);
        x.at(0, 0);
        due.is("refused: asked() stays", x.asked(), 9);
        x.cabinet(0);
        due.is("a CABINET anew: asked() stays", x.asked(), 9);
    }

    private static void count() {
        ChairCabinet x = Due.of("r024m310o621a014y222d310");
        int[] first = {5, 0, 0, 31, 1 + 4 + 16, 0, 2, 2, 0, 1, 0};
        countsAre("at first", x, first);
        ChairCabinet y = Due.of("r0o010a010d010y010");
        due.is("count(6), the first one too", y.count(6), 2);
        due.is("count(7)", y.count(7), 2);
        x.bar();
        x.bar();
        x.take(2);
        x.stop();
        x.row(0, 0);
        x.row(3, 3);
        x.text(3, 0);
        x.keep(1);
        x.keep(2);
        int in = 0;
        for (int i = 0; i < 5; i++) {
            x.minister(i, 4);
            in |= x.asked() << i;
        }
        due.is("some are OUT", in < 31 ? 1 : 0, 1);
        countsAre("behind some DEEDS", x, 5, 2, 4, in, 1 + 16, 1, 2, 2, 2, 2, 2);
        due.is("count(-1)", x.count(-1), Due.BAD);
        due.is("count(11)", x.count(11), Due.BAD);
        due.is("count(LOW)", x.count(Due.LOW), Due.BAD);
        due.is("count(HIGH)", x.count(Due.HIGH), Due.BAD);
    }

    private static void countsAre(String when, ChairCabinet x, int... numbers) {
        for (int what = 0; what <= 10; what++) {
            due.is("count(" + what + ") " + when, x.count(what), numbers[what]);
        }
    }

    private static void findings() {
        ChairCabinet x = Due.of("r0m010");
        due.is("finding() at first", x.finding(), 0);
        for (int f = 1; f <= 5; f++) {
            due.is("findings(" + f + ") at first", x.findings(f), 0);
        }
        x.at(0, 0);
        x.row(0, 1);
        x.at(0, 1);
        x.at(0, 2);
        x.row(1, 0);
        x.mark(0, 1);
        x.mark(0, 2);
        x.mark(0, 3);
        for (int k = 0; k < 4; k++) {
            x.mean(1);
        }
        for (int k = 0; k < 5; k++) {
            x.row(0, -1);
        }
        for (int f = 1; f <= 5; f++) {
            due.is("findings(" + f + ")", x.findings(f), f);
        }
        due.is("finding()", x.finding(), 5);
        x.at(6, 0);
        x.take(0);
        x.when(1);
        x.at(0, 0);
        x.row(0, 2);
        due.is("finding() stays", x.finding(), 5);
        x.at(2, 0);
        due.is("finding() anew", x.finding(), 1);
        due.is("findings(1) anew", x.findings(1), 2);
        x.cabinet(0);
        due.is("findings(1) with a CABINET anew", x.findings(1), 2);
        due.is("findings(0)", x.findings(0), Due.BAD);
        due.is("findings(6)", x.findings(6), Due.BAD);
        due.is("findings(-1)", x.findings(-1), Due.BAD);
        due.is("findings(HIGH)", x.findings(Due.HIGH), Due.BAD);
    }

    private static long hash(long... numbers) {
        long h = 17;
        for (long number : numbers) {
            h = 31 * h + number;
        }
        return h;
    }

    private static void digest() {
        ChairCabinet x = new ChairCabinet();
        due.is("digest() at first", x.digest(), hash(0, 0, 0, 0, 0, 0, 0, 0, 0, 0, 0,
            -1, -1, -1, -1, -1, -1, -1, -1, -1, -1, -1, -1, -1));
        x.text(1, 3);
        x.put(1, 2, 200);
        Due.fill(x, 4, 7, -5);
        x.row(5, 0);
        due.is("digest() of ROWS, TEXTS", x.digest(), hash(0, 0, 0, 0, 0, 0, 0, 0, 2, 1, 0,
            -1, -1, -1, -1, -1, -1, -1, 2, 7, -5, 0, -1, 3, 32, 32, -56, -1, -1));
        ChairCabinet y = Due.of("r04l025o421");
        y.keep(2);
        y.bar();
        y.keep(0);
        y.text(0, 0);
        due.is("digest() of a CABINET", y.digest(), hash(2, 1, 1, 3, 17, 0, 1, 0, 0, 1, 2,
            2, 2, 2, 15, 1, 2, 1, 5, 2, 1, 1, 2,
            1, -1, 0, -1, -1, -1, -1, -1, -1, 0, -1, -1, -1));
    }
}
