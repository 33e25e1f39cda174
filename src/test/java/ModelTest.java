import java.lang.reflect.InvocationTargetException;
import java.lang.reflect.Method;
import java.nio.charset.StandardCharsets;
import java.util.ArrayList;
import java.util.Comparator;
import java.util.List;

/**
 * Makes the same runs of calls on ChainSurvey and on Model and compares every answer. The calls are
 * drawn by a counter of its own with a fixed beginning, so that every run of this test is the same.
 */
public final class ModelTest {
    private static final int RUNS = 300;
    private static final int CALLS = 500;

    private static final Checks checks = new Checks();
    private static final List<Method> QUERIES = new ArrayList<>();
    private static final List<Method> CHANGES = new ArrayList<>();
    private static final String[] CHANGE_NAMES = {"truncateInput", "load", "play", "addLeg", "addBog", "dropPin", "findPin", "removeLast",
        "setWear", "setPace", "setAdjusted", "undo", "save", "restore", "writeStations"};
    private static final String[] WORDS = {"leg", "bog", "drop", "found", "wear", "pace", "adjust", "raw", "back", "dropped", "rise", "at", "survey",
        "oak", "mill", "reed", "a", "b", "abcdef", "abcdefg", ";", ";", ";", "0", "1", "15", "90", "100", "0007", "99999999999", "A", "-", "\u00e9"};
    private static final String[] NAMES = {"a", "b", "c", "oak", "mill", "barn", "reed", "leg", "at", "abcdef", "qa", "qb", "qe", "rise"};

    private static long seed = 20261119;
    private static int calls;

    public static void main(String[] args) throws Exception {
        Method[] methods = ChainSurvey.class.getDeclaredMethods();
        java.util.Arrays.sort(methods, Comparator.comparing(Method::getName));
        for (Method method : methods) {
            if (java.lang.reflect.Modifier.isPublic(method.getModifiers()) && !method.getName().equals("append")) {
                (List.of(CHANGE_NAMES).contains(method.getName()) ? CHANGES : QUERIES).add(method);
            }
        }
        for (int run = 0; run < RUNS; run++) {
            oneRun(run);
        }
        checks.finish();
    }

    private static void oneRun(int run) throws Exception {
        ChainSurvey program = new ChainSurvey();
        Model model = new Model();
        for (calls = 0; calls < CALLS;) {
            int kind = below(10);
            if (kind < 3) {
                both(run, program, model, CHANGES.get(below(CHANGES.size())));
            } else if (kind < 4) {
                text(run, program, model);
            } else {
                Method query = QUERIES.get(below(QUERIES.size()));
                // The model's bestPace() takes as long as all the rest; once in a while is enough.
                if (!query.getName().equals("bestPace") || below(8) == 0) {
                    both(run, program, model, query);
                }
            }
        }
    }

    private static int below(int bound) {
        seed = seed * 6364136223846793005L + 1442695040888963407L;
        return (int) ((seed >>> 33) % bound);
    }

    private static void both(int run, ChainSurvey program, Model model, Method method) throws Exception {
        Object[] values = new Object[method.getParameterCount()];
        for (int i = 0; i < values.length; i++) {
            values[i] = method.getParameterTypes()[i] == boolean.class ? (Object) (below(2) == 0) : (Object) value(method.getName(), i);
        }
        compare(run, program, model, method, values);
    }

    private static int value(String name, int index) {
        if (below(40) == 0) {
            return new int[] {-1, Integer.MIN_VALUE, Integer.MAX_VALUE, 1000, 360, 20, 21}[below(7)];
        }
        switch (name) {
            case "addLeg":
                return index == 0 ? below(24) * 15 : below(new int[] {0, 100, 100, below(2) == 0 ? 1 : 10000, 51}[index]);
            case "addBog":
                return index == 0 ? below(24) * 15 : 1 + below(999);
            case "setWear":
                return below(1000);
            case "setPace":
                return 100 + below(900);
            case "truncateInput":
                return below(30);
            case "save":
            case "restore":
                return below(2);
            case "outputByte":
                return below(below(2) == 0 ? 30 : 450);
            case "nameByte":
                return below(index == 0 ? 8 : 7);
            default:
                return below(below(2) == 0 ? 6 : 21);
        }
    }

    private static void compare(int run, ChainSurvey program, Model model, Method method, Object[] values) throws Exception {
        Method twin = Model.class.getDeclaredMethod(method.getName(), method.getParameterTypes());
        String got = answer(method, program, values);
        String due = answer(twin, model, values);
        calls++;
        checks.note(got.equals(due), "run " + run + ", call " + calls + ": " + method.getName() + java.util.Arrays.toString(values)
                + " answered " + got + ", due is " + due);
    }

    private static String answer(Method method, Object target, Object[] values) throws Exception {
        try {
            return String.valueOf(method.invoke(target, values));
        } catch (InvocationTargetException e) {
            return "throws." + e.getCause().getClass().getName();
        }
    }

    private static void text(int run, ChainSurvey program, Model model) throws Exception {
        boolean isSetup = below(3) == 0;
        byte[] bytes = (below(8) == 0 ? NAMES[below(NAMES.length)] : scribble(isSetup)).getBytes(StandardCharsets.ISO_8859_1);
        compare(run, program, model, ChainSurvey.class.getMethod("truncateInput", int.class), new Object[] {0});
        Method append = ChainSurvey.class.getMethod("append", int.class, int.class, int.class, int.class, int.class);
        for (int from = 0; from < bytes.length; from += 20) {
            Object[] words = new Object[5];
            for (int i = 0; i < 5; i++) {
                int word = 0;
                for (int k = from + 4 * i; k < from + 4 * i + 4; k++) {
                    word = word << 8 | (k < bytes.length ? bytes[k] & 255 : 32);
                }
                words[i] = word;
            }
            compare(run, program, model, append, words);
        }
        compare(run, program, model, ChainSurvey.class.getMethod("truncateInput", int.class), new Object[] {Math.min(bytes.length, 900)});
        compare(run, program, model, ChainSurvey.class.getMethod("findLeg"), new Object[0]);
        compare(run, program, model, ChainSurvey.class.getMethod(isSetup ? "load" : "play"), new Object[0]);
        compare(run, program, model, ChainSurvey.class.getMethod("errorCode"), new Object[0]);
        compare(run, program, model, ChainSurvey.class.getMethod("errorOffset"), new Object[0]);
    }

    /** A text that is mostly right, and now and then damaged. */
    private static String scribble(boolean isSetup) {
        StringBuilder text = new StringBuilder(isSetup ? "survey " + below(1000) + gap() + (100 + below(900)) + ";" : "");
        int count = below(below(4) == 0 ? 26 : 6);
        for (int i = 0; i < count; i++) {
            text.append(commandText(isSetup, i));
        }
        for (int damage = below(3) == 0 ? 1 + below(2) : 0; damage > 0; damage--) {
            int at = below(text.length() + 1);
            switch (below(4)) {
                case 0 -> text.insert(at, WORDS[below(WORDS.length)]);
                case 1 -> text.insert(at, " " + WORDS[below(WORDS.length)] + " ");
                case 2 -> text.setLength(at);
                default -> text.delete(at, Math.min(text.length(), at + 1 + below(4)));
            }
        }
        return text.toString();
    }

    private static String gap() {
        return " ".repeat(below(8) == 0 ? 2 : 1);
    }

    private static String space() {
        return below(8) == 0 ? " " : "";
    }

    private static String commandText(boolean isSetup, int index) {
        String name = below(3) == 0 ? NAMES[below(NAMES.length)] : "" + (char) ('a' + index) + (isSetup ? "" : (char) ('a' + below(26)));
        String bearing = gap() + below(24) * 15;
        String text;
        switch (below(isSetup ? 14 : 18)) {
            case 0, 1, 2 -> text = "bog" + gap() + name + bearing + gap() + (1 + below(999));
            case 3 -> text = "wear" + space() + below(1010);
            case 4 -> text = "pace" + gap() + (95 + below(910));
            case 5 -> text = "adjust" + space();
            case 6 -> text = "raw";
            case 14 -> text = "back" + space();
            case 7, 15 -> text = "drop " + NAMES[below(NAMES.length)] + space();
            case 16 -> text = "found " + NAMES[below(NAMES.length)];
            default -> text = "leg" + gap() + name + bearing + gap() + below(100) + gap() + below(100)
                    + (below(3) == 0 ? " dropped " + below(10) : "") + (below(3) == 0 ? " rise " + below(2000) : "") + (below(3) == 0 ? "at" + below(52) : "");
        }
        return text + ";" + space();
    }
}
