import java.lang.reflect.InvocationTargetException;
import java.util.ArrayList;
import java.util.Arrays;
import java.util.List;

/** An object on which calls are made as they are told: "copy(0, 6, 1, 3, HIGH)". */
final class Played {
    /** What later calls answer is free, so no test may look at it. */
    private static final int MOST_CALLS = 512;

    private final ChairCabinet x = new ChairCabinet();
    private int calls = 0;

    long call(String call) {
        calls++;
        if (calls > MOST_CALLS) {
            throw new IllegalStateException("call " + calls + " of one object: " + call);
        }
        int open = call.indexOf('(');
        String inside = call.substring(open + 1, call.length() - 1);
        String[] parts = inside.isEmpty() ? new String[0] : inside.split(",");
        Class<?>[] kinds = new Class<?>[parts.length];
        Object[] values = new Object[parts.length];
        for (int p = 0; p < parts.length; p++) {
            kinds[p] = int.class;
            values[p] = number(parts[p].trim());
        }
        try {
            Object answer = ChairCabinet.class.getMethod(call.substring(0, open), kinds).invoke(x, values);
            return ((Number) answer).longValue();
        } catch (InvocationTargetException e) {
            throw new IllegalStateException(call + " threw " + e.getCause(), e);
        } catch (ReflectiveOperationException e) {
            throw new IllegalStateException("no such call: " + call, e);
        }
    }

    private static int number(String told) {
        return told.equals("LOW") ? Integer.MIN_VALUE
            : told.equals("HIGH") ? Integer.MAX_VALUE : Integer.parseInt(told);
    }

    /** What is told from outside the CABINET, the ROWS and the TEXTS. */
    List<Long> told() {
        return List.of(call("asked()"), call("upper()"), call("lower()"));
    }

    /** finding(), then findings() of 1 to 5. */
    long[] found() {
        long[] all = new long[6];
        all[0] = call("finding()");
        for (int f = 1; f <= 5; f++) {
            all[f] = call("findings(" + f + ")");
        }
        return all;
    }

    /** How all stands, now and behind each undo(), then likewise gone on from each kept CABINET. */
    List<String> stands() {
        List<String> all = new ArrayList<>(Arrays.asList("now " + digests()));
        for (int k = 0; k <= 2; k++) {
            long deeds = call("on(" + k + ")");
            all.add("kept in " + k + ": " + deeds + " " + (deeds < 0 ? "" : digests()));
        }
        return all;
    }

    private String digests() {
        StringBuilder all = new StringBuilder(Long.toString(call("digest()")));
        for (long n = call("count(2)") - 1; n >= 0; n--) {
            all.append(' ').append(call("undo(" + n + ")")).append(' ').append(call("digest()"));
        }
        return all.toString();
    }
}
