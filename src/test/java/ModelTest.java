import java.lang.reflect.Method;
import java.lang.reflect.Modifier;
import java.util.ArrayList;
import java.util.Comparator;
import java.util.List;
import java.util.Random;

/** Plays the class against the Model: the same calls by seeds, each answer and what it tells compared. */
public final class ModelTest {
    private static final Due due = new Due("the Model");
    private static final int[] STRANGE = {-1, 0, 1, 8, 13, 21, 41, 61, 255, 65536, Due.LOW, Due.LOW + 1,
        Due.HIGH, Due.HIGH - 1};
    /** What later calls of one object answer is free. */
    private static final int MOST_CALLS = 512;
    private static final String[] TELLS = {"asked", "upper", "lower", "finding"};

    private final Random random;
    private final ChairCabinet x = new ChairCabinet();
    private final Model model = new Model();
    private final List<String> calls = new ArrayList<>();

    private ModelTest(long seed) {
        random = new Random(seed);
    }

    public static void main(String[] args) throws ReflectiveOperationException {
        List<Method> methods = new ArrayList<>();
        for (Method method : ChairCabinet.class.getDeclaredMethods()) {
            if (Modifier.isPublic(method.getModifiers())) {
                methods.add(method);
            }
        }
        methods.sort(Comparator.comparing(Method::getName));
        int runs = args.length > 0 ? Integer.parseInt(args[0]) : 3000;
        for (int seed = 0; seed < runs; seed++) {
            ModelTest test = new ModelTest(seed);
            if (!test.play(methods)) {
                System.out.println("seed " + seed + ": " + String.join("; ", test.calls));
                break;
            }
        }
        faults();
        due.end();
    }

    /** Writes a TEXT, makes some calls, and so on, as long as an object may be used. */
    private boolean play(List<Method> methods) throws ReflectiveOperationException {
        boolean same = true;
        for (int k = 0; same && calls.size() <= MOST_CALLS - 70; k++) {
            same = k % 30 == 0 ? writeText() : callOneOf(methods);
        }
        return same && tells("digest", "asked", "upper", "lower", "finding");
    }

    private boolean callOneOf(List<Method> methods) throws ReflectiveOperationException {
        Method method = methods.get(random.nextInt(methods.size()));
        String name = method.getName();
        boolean rare = name.equals("cabinet") || name.equals("text") || name.equals("put") || name.equals("undo");
        Object[] values = new Object[method.getParameterCount()];
        for (int p = 0; p < values.length; p++) {
            values[p] = value(name, p);
        }
        if (rare && random.nextInt(4) != 0) {
            return true;
        }
        return call(name, values) && tells("digest", TELLS[random.nextInt(TELLS.length)])
            && call("findings", 1 + random.nextInt(5));
    }

    private boolean tells(String... names) throws ReflectiveOperationException {
        boolean same = true;
        for (String name : names) {
            same = same && call(name);
        }
        return same;
    }

    private boolean call(String name, Object... values) throws ReflectiveOperationException {
        Class<?>[] kinds = new Class<?>[values.length];
        StringBuilder told = new StringBuilder(name).append('(');
        for (int p = 0; p < values.length; p++) {
            kinds[p] = int.class;
            told.append(p == 0 ? "" : ", ").append(values[p]);
        }
        calls.add(told.append(')').toString());
        Number got = (Number) ChairCabinet.class.getMethod(name, kinds).invoke(x, values);
        Number want = (Number) Model.class.getDeclaredMethod(name, kinds).invoke(model, values);
        due.is(told.toString(), got.longValue(), want.longValue());
        return got.longValue() == want.longValue();
    }

    /** A number as a call may want it, or a strange one. */
    private int value(String name, int p) {
        if (random.nextInt(25) == 0) {
            return STRANGE[random.nextInt(STRANGE.length)];
        }
        switch (name + p) {
            case "row1": case "text1":
                return random.nextInt(random.nextBoolean() ? 9 : 45) - 1;
            case "lay1": case "at1": case "copy1": case "copy3": case "copy4":
                return random.nextInt(7) - 1;
            case "lay2":
                return random.nextInt(random.nextBoolean() ? 9 : 22);
            case "put1":
                return random.nextInt(30);
            case "put2":
                return " r0123456789moldayx".charAt(random.nextInt(19));
            case "where1":
                return random.nextInt(61);
            case "sits0": case "remove1": case "spare1":
                return random.nextInt(21);
            case "when0":
                return random.nextBoolean() ? 1 << random.nextInt(6) : random.nextInt(64);
            case "undo0":
                return random.nextInt(20);
            case "odds2": case "mid1":
                return random.nextInt(13);
            case "lots0":
                return 1 + random.nextInt(random.nextInt(3) == 0 ? 20 : 4);
            case "lots1":
                return random.nextInt(Due.HIGH);
            case "keep0": case "on0": case "text0": case "fault0": case "cabinet0": case "put0":
                return random.nextInt(4);
            case "reign1": case "bribe1":
                return random.nextInt(4);
            case "odds1": case "mid0":
                return random.nextInt(7);
            case "take0":
                return random.nextInt(8);
            case "count0":
                return random.nextInt(11);
            default:
                return random.nextInt(6);
        }
    }

    private static String cabinetText(Random random) {
        StringBuilder all = new StringBuilder();
        blanks(random, all);
        all.append('r');
        int chairs = 1 + random.nextInt(254);
        for (int place = 0; place < 8; place++) {
            all.append((chairs >> place & 1) == 1 ? "" + place : "");
        }
        int ministers = 1 + random.nextInt(6);
        String letters = random.nextInt(3) == 0 ? "oa" : "molday";
        for (int i = 0; i < ministers; i++) {
            blanks(random, all);
            all.append(letters.charAt(random.nextInt(letters.length()))).append(random.nextInt(8))
                .append(1 + random.nextInt(3)).append(random.nextInt(random.nextBoolean() ? 10 : 2));
        }
        blanks(random, all);
        return all.toString();
    }

    private static void blanks(Random random, StringBuilder all) {
        for (int k = random.nextInt(6); k > 3; k--) {
            all.append(' ');
        }
    }

    private boolean writeText() throws ReflectiveOperationException {
        int t = random.nextInt(4);
        String signs = cabinetText(random);
        boolean same = call("text", t, signs.length());
        for (int i = 0; i < signs.length() && same; i++) {
            same = call("put", t, i, (int) signs.charAt(i));
        }
        return same && call("fault", t) && (random.nextInt(4) == 0 || call("cabinet", t));
    }

    /** FAULTS of TEXTS with a few signs amiss. */
    private static void faults() {
        Random random = new Random(5);
        for (int k = 0; k < 20000; k++) {
            StringBuilder signs = new StringBuilder(cabinetText(random));
            for (int amiss = random.nextInt(4); amiss > 0 && signs.length() > 0; amiss--) {
                int i = random.nextInt(signs.length());
                char sign = " r0123456789molday!".charAt(random.nextInt(19));
                int how = random.nextInt(4);
                if (how == 0) {
                    signs.setCharAt(i, sign);
                } else if (how == 1) {
                    signs.insert(i, sign);
                } else if (how == 2) {
                    signs.deleteCharAt(i);
                } else {
                    signs.setLength(i);
                }
            }
            ChairCabinet x = new ChairCabinet();
            Model model = new Model();
            int size = Math.min(60, signs.length());
            x.text(0, size);
            model.text(0, size);
            for (int i = 0; i < size; i++) {
                x.put(0, i, signs.charAt(i));
                model.put(0, i, signs.charAt(i));
            }
            due.is("fault of '" + signs + "'", x.fault(0), model.fault(0));
        }
    }
}
