import java.lang.reflect.InvocationTargetException;
import java.lang.reflect.Method;
import java.util.ArrayList;
import java.util.Arrays;
import java.util.Comparator;
import java.util.List;

/** Compares answers with those that are due, and ends a test with exit code 1 if one was not. */
final class Due {
    static final int BAD = -1, FULL = -2, FINDING = -3, STATE = -4, NONE = -9;
    static final int NOTHING = 1, BEYOND = 2, UNLIKE = 3, NOUGHT = 4, SIZE = 5;
    static final int LOW = Integer.MIN_VALUE, HIGH = Integer.MAX_VALUE;

    private static final int NO_FINDING = 0;
    private static final long MOST_MILLISECONDS = 300_000;

    static {
        Thread watch = new Thread(Due::endTheEndless);
        watch.setDaemon(true);
        watch.start();
    }

    private final String test;
    private int asked = 0;
    private int wrong = 0;

    Due(String test) {
        this.test = test;
    }

    /** A call that fails to end should fail its test, not hold up all others. */
    private static void endTheEndless() {
        try {
            Thread.sleep(MOST_MILLISECONDS);
        } catch (InterruptedException e) {
            return;
        }
        System.out.println("not at its end behind " + MOST_MILLISECONDS + " milliseconds");
        Runtime.getRuntime().halt(1);
    }

    // ---- the tests of a class, each on its own

    /** The tests of a class that say which words of the document they hold it to. */
    static List<Method> testsOf(Class<?> tests) {
        List<Method> all = new ArrayList<>();
        for (Method method : tests.getDeclaredMethods()) {
            if (method.isAnnotationPresent(Says.class)) {
                all.add(method);
            }
        }
        all.sort(Comparator.comparing((Method method) -> method.getAnnotation(Says.class).of())
            .thenComparing(Method::getName));
        return all;
    }

    static void run(Class<?> tests) {
        List<Method> all = testsOf(tests);
        int answers = 0;
        int failed = 0;
        for (Method test : all) {
            Due due = new Due(test.getName() + " (" + told(test.getAnnotation(Says.class)) + ")");
            try {
                test.invoke(null, due);
            } catch (InvocationTargetException e) {
                due.fails("threw " + e.getCause());
            } catch (IllegalAccessException e) {
                due.fails("can't be called: " + e);
            }
            answers += due.asked;
            failed += due.failed() ? 1 : 0;
        }
        System.out.println(all.size() + " tests, " + answers + " answers, " + failed + " failed");
        if (failed != 0 || all.isEmpty()) {
            System.exit(1);
        }
    }

    private static String told(Says says) {
        return (says.of() == 0 ? "Terms" : "Promise " + says.of()) + ": "
            + String.join(" .. ", says.words());
    }

    private void fails(String how) {
        wrong++;
        System.out.println(test + ": " + how);
    }

    private boolean failed() {
        return wrong != 0 || asked == 0;
    }

    void end() {
        System.out.println(asked + " answers, " + wrong + " not as due");
        if (failed()) {
            System.exit(1);
        }
    }

    // ---- answers

    void is(String what, long got, long want) {
        asked++;
        if (got != want) {
            fails(what + " answered " + got + ", due is " + want);
        }
    }

    void same(String what, Object got, Object want) {
        asked++;
        if (!got.equals(want)) {
            fails(what + " is " + got + ", due is " + want);
        }
    }

    void is(Played x, String call, long want) {
        is(call, x.call(call), want);
    }

    void is(Run run, String call, long want) {
        is(run.made(), call, want);
    }

    /** A call that tells by asked(). */
    void tells(Played x, String call, long want, long asked) {
        is(x, call, want);
        is("asked() behind " + call, x.call("asked()"), asked);
    }

    void tells(Run run, String call, long want, long asked) {
        tells(run.made(), call, want, asked);
    }

    /** A call that tells a chance, a mean. */
    void tellsChance(Run run, String call, long upper, long lower) {
        Played x = run.made();
        is(x, call, 1);
        is("upper() behind " + call, x.call("upper()"), upper);
        is("lower() behind " + call, x.call("lower()"), lower);
    }

    void row(String what, Played x, int r, int... values) {
        StringBuilder got = new StringBuilder();
        for (int i = 0; i < values.length; i++) {
            long answer = x.call("at(" + r + ", " + i + ")");
            got.append(answer == 1 ? x.call("asked()") + " " : answer + "! ");
        }
        boolean more = x.call("at(" + r + ", " + values.length + ")") == 1;
        StringBuilder want = new StringBuilder();
        for (int value : values) {
            want.append(value).append(' ');
        }
        same(what + ": ROW " + r, got.append(more ? "more" : "end").toString(), want.append("end").toString());
    }

    // ---- answers, and what they change: a twin without the call tells what stood ahead of it

    /** Refused without a FINDING: changes nothing at all. */
    void refuses(Run run, int answer, String... calls) {
        for (String call : calls) {
            leaves(run, call, answer);
        }
    }

    /** Refused by a FINDING: changes finding() and one of findings() alone. */
    void finds(Run run, int finding, String... calls) {
        for (String call : calls) {
            Played x = run.made();
            is(x, call, FINDING);
            changed(call, x, finding, run.made().told(), run);
        }
    }

    /** Refused with -1, with one more than the most, with the extremes where the call's % is. */
    void refusesOutside(Run run, int answer, String call, int least, int most) {
        for (String number : outside(least, most)) {
            refuses(run, answer, call.replace("%", number));
        }
    }

    void findsOutside(Run run, int finding, String call, int least, int most) {
        for (String number : outside(least, most)) {
            finds(run, finding, call.replace("%", number));
        }
    }

    private static String[] outside(int least, int most) {
        return new String[] {Integer.toString(least - 1), Integer.toString(most + 1), "LOW", "HIGH"};
    }

    /** Answers, and changes nothing. */
    void leaves(Run run, String call, long want) {
        Played x = run.made();
        is(x, call, want);
        changed(call, x, NO_FINDING, run.made().told(), run);
    }

    /** Answers, tells by asked(), and changes nothing else. */
    void tellsOnly(Run run, String call, long want, long asked) {
        Played x = run.made();
        is(x, call, want);
        List<Long> told = new ArrayList<>(run.made().told());
        told.set(0, asked);
        changed(call, x, NO_FINDING, told, run);
    }

    /** Answers, tells by upper(), lower(), and changes nothing else. */
    void tellsChanceOnly(Run run, String call, long upper, long lower) {
        Played x = run.made();
        is(x, call, 1);
        changed(call, x, NO_FINDING, List.of(run.made().told().get(0), upper, lower), run);
    }

    /** Answers, and all stands then as behind another run; what is told stays. */
    void becomes(Run run, String call, long want, Run other) {
        Played x = run.made();
        is(x, call, want);
        same("finding(), findings() behind " + call, Arrays.toString(x.found()),
            Arrays.toString(run.made().found()));
        same("asked(), upper(), lower() behind " + call, x.told(), run.made().told());
        same("all that stands behind " + call, x.stands(), other.made().stands());
    }

    private void changed(String call, Played x, int finding, List<Long> told, Run as) {
        Played twin = as.made();
        long[] found = twin.found();
        if (finding != NO_FINDING) {
            found[0] = finding;
            found[finding]++;
        }
        same("asked(), upper(), lower() behind " + call, x.told(), told);
        same("finding(), findings() behind " + call, Arrays.toString(x.found()), Arrays.toString(found));
        same("all that stands behind " + call, x.stands(), twin.stands());
    }
}
