import java.util.LinkedHashMap;
import java.util.Map;

/**
 * Compares all that can be seen of objects that were made alike, one of which had a call more. A
 * probe may use its object up, so each probe has objects of its own; none comes near 512 calls.
 */
final class Probes {
    interface Making {
        ChainSurvey make();
    }

    interface Call {
        void on(ChainSurvey x);
    }

    interface Probe {
        String of(ChainSurvey x);
    }

    static final String STATE = "the state";
    static final String REPORT = "the reported error";
    static final String CHANGES = "the changes to undo";
    static final String OUTPUT = "the output";
    static final String BUFFER = "the input buffer";
    static final String SLOTS = "the saved states";

    private static final Map<String, Probe> ALL = new LinkedHashMap<>();

    static {
        ALL.put(STATE, Checks::stateOf);
        ALL.put(REPORT, x -> x.errorCode() + " at " + x.errorOffset());
        ALL.put(CHANGES, Probes::changes);
        ALL.put(OUTPUT, Checks::output);
        ALL.put(BUFFER, Probes::buffer);
        ALL.put(SLOTS, x -> slot(x, 0) + " / " + slot(x, 1));
    }

    /** Nothing but the named parts may be changed by the call. */
    static void dueSame(Checks checks, String what, Making making, Call call, String... changed) {
        for (Map.Entry<String, Probe> probe : ALL.entrySet()) {
            if (!java.util.List.of(changed).contains(probe.getKey())) {
                ChainSurvey x = making.make();
                call.on(x);
                checks.due(what + " leaves " + probe.getKey(), probe.getValue().of(x), probe.getValue().of(making.make()));
            }
        }
    }

    /** The call must throw exactly this class and change nothing. */
    static void dueRefused(Checks checks, String what, Class<? extends RuntimeException> due, Making making, Call call) {
        ChainSurvey x = making.make();
        checks.dueThrow(what, due, () -> call.on(x));
        dueSame(checks, what, making, y -> afterThrow(y, call));
    }

    private static void afterThrow(ChainSurvey x, Call call) {
        try {
            call.on(x);
        } catch (RuntimeException e) {
            // Which class it is was looked at before; here it counts what the call left.
        }
    }

    /** Little enough to be asked at each of eight undone changes. */
    static String shortState(ChainSurvey x) {
        return x.legCount() + " " + x.wear() + " " + x.pace() + " " + x.isAdjusted() + " " + x.perimeter() + " " + x.closingEast() + " " + x.closingNorth();
    }

    private static String changes(ChainSurvey x) {
        StringBuilder text = new StringBuilder();
        for (int left = x.undoableChanges(); left > 0; left--) {
            text.append(x.undo()).append(": ").append(shortState(x)).append("; ");
        }
        return text.append(x.undoableChanges()).toString();
    }

    /** The length and, by what play() makes of it, the content. */
    private static String buffer(ChainSurvey x) {
        int found = x.findLeg();
        int length = lengthOfBuffer(x);
        return found + " " + length + " " + x.play() + " " + x.errorCode() + " " + x.errorOffset() + " " + Checks.stateOf(x);
    }

    static int lengthOfBuffer(ChainSurvey x) {
        int longer = x.append(0, 0, 0, 0, 0);
        if (longer != ChainSurvey.NONE) {
            return x.truncateInput(longer - 20);
        }
        for (int length = 900; length > 880; length--) {
            try {
                return x.truncateInput(length);
            } catch (IllegalArgumentException e) {
                // The buffer is shorter.
            }
        }
        return -1;
    }

    private static String slot(ChainSurvey x, int slot) {
        try {
            return x.restore(slot) + ": " + Checks.stateOf(x);
        } catch (IllegalStateException e) {
            return "nothing";
        }
    }

    // ---- objects to begin with

    /**
     * Four legs: "full" with 9 dropped pins, "none" with 0, the bog leg "fen" and "qe", whose name
     * addLeg() would give to the next leg. Eight changes can be undone and as many are forgotten,
     * slot 0 is saved, slot 1 is not, an error is reported, and there are an output and a text.
     */
    static ChainSurvey busy() {
        ChainSurvey x = new ChainSurvey();
        x.writeStations();
        for (int wear = 1; wear <= 12; wear++) {
            x.setWear(wear);
        }
        x.save(0);
        Checks.load(x, "survey 13 250;leg full 15 1 0 dropped 9;leg none 105 2 7;bog fen 210 7;leg qe 300 2 50 rise 12 at 44;adjust;");
        x.dropPin(1);
        x.findPin(1);
        Checks.play(x, "raw;wear 1000;");
        Checks.feed(x, "wear 7;drop none;raw;");
        return x;
    }

    /** Twenty legs, the last but one a bog leg, and a buffer of 900 bytes. */
    static ChainSurvey full() {
        ChainSurvey x = loaded(20);
        Checks.feed(x, " ".repeat(893) + "wear 7;");
        return x;
    }

    /** No leg, nothing in the buffer, and one change to undo. */
    static ChainSurvey empty() {
        return loaded(0);
    }

    static ChainSurvey loaded(int legs) {
        StringBuilder text = new StringBuilder("survey 5 200;");
        for (int leg = 0; leg < legs; leg++) {
            String name = " x" + (char) ('a' + leg) + " " + leg * 15;
            text.append(leg == legs - 2 ? "bog" + name + " 9;" : "leg" + name + " 1 " + leg + ";");
        }
        return Checks.loaded(text.toString());
    }
}
