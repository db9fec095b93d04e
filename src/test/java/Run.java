import java.util.ArrayList;
import java.util.List;

/** A row of calls that can be made on a new object, again and again. */
final class Run {
    private final List<String> calls;

    private Run(List<String> calls) {
        this.calls = calls;
    }

    static Run anew() {
        return new Run(List.of());
    }

    /** A CABINET by TEXT 0. */
    static Run of(String signs) {
        return anew().text(0, signs).then("cabinet(0)");
    }

    /** All there is of each: what a refused call should leave as it is can be seen. IN are 2, 4, 5. */
    static Run rich() {
        return of("r0246 m010 o121 l732 d313 a414 y525").text(1, "r0m01").then("text(2, 0)")
            .row(0, 5, 6, 7).row(1).row(2, 1, 3).row(4, 21, 8)
            .then("bar()", "keep(0)", "nudge(1)", "take(6)", "keep(1)", "stop()", "bar()")
            .then("odds(2, 1, 5)", "at(3, 0)", "mean(1)", "at(0, 1)");
    }

    Run then(String... more) {
        List<String> all = new ArrayList<>(calls);
        all.addAll(List.of(more));
        return new Run(all);
    }

    Run times(int n, String call) {
        Run run = this;
        for (int k = 0; k < n; k++) {
            run = run.then(call);
        }
        return run;
    }

    Run text(int t, String signs) {
        Run run = then("text(" + t + ", " + signs.length() + ")");
        for (int i = 0; i < signs.length(); i++) {
            if (signs.charAt(i) != ' ') {
                run = run.then("put(" + t + ", " + i + ", " + (int) signs.charAt(i) + ")");
            }
        }
        return run;
    }

    Run row(int r, int... values) {
        Run run = then("row(" + r + ", " + values.length + ")");
        for (int i = 0; i < values.length; i++) {
            if (values[i] != 0) {
                run = run.then("lay(" + r + ", " + i + ", " + values[i] + ")");
            }
        }
        return run;
    }

    Played made() {
        Played x = new Played();
        for (String call : calls) {
            long answer = x.call(call);
            if (call.startsWith("cabinet(") && answer < 0) {
                throw new IllegalStateException("no CABINET: " + calls);
            }
        }
        return x;
    }
}
