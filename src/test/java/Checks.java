import java.nio.charset.StandardCharsets;

/** Counts the answers of a test that are due and prints those that are not. */
final class Checks {
    static final Class<? extends RuntimeException> ARGUMENT = IllegalArgumentException.class;
    static final Class<? extends RuntimeException> STATE = IllegalStateException.class;
    static final Class<? extends RuntimeException> INDEX = IndexOutOfBoundsException.class;

    interface Call {
        void make();
    }

    private int right = 0;
    private int wrong = 0;

    void due(String what, long got, long want) {
        note(got == want, what + " answered " + got + ", due is " + want);
    }

    void due(String what, boolean got, boolean want) {
        note(got == want, what + " answered " + got + ", due is " + want);
    }

    void due(String what, String got, String want) {
        note(got.equals(want), what + " answered \"" + got + "\", due is \"" + want + "\"");
    }

    void dueDouble(String what, double got, double want) {
        note(Double.compare(got, want) == 0, what + " answered " + got + ", due is " + want);
    }

    void dueFloat(String what, float got, float want) {
        note(Float.compare(got, want) == 0, what + " answered " + got + ", due is " + want);
    }

    /** The call must throw exactly this class; a subclass would be the machine's own. */
    void dueThrow(String what, Class<? extends RuntimeException> want, Call call) {
        String got = "nothing";
        try {
            call.make();
        } catch (RuntimeException e) {
            got = e.getClass().getName();
        }
        note(got.equals(want.getName()), what + " threw " + got + ", due is " + want.getName());
    }

    /** A setup or script that must stop with an error. */
    void dueError(String text, boolean isSetup, int code, int offset) {
        ChainSurvey x = new ChainSurvey();
        String before = stateOf(x);
        feed(x, text);
        String what = (isSetup ? "load " : "play ") + text;
        due(what, isSetup ? x.load() : x.play(), ChainSurvey.NONE);
        due(what + ": errorCode()", x.errorCode(), code);
        due(what + ": errorOffset()", x.errorOffset(), offset);
        due(what + ": state", stateOf(x), before);
        due(what + ": undoableChanges()", x.undoableChanges(), 0);
        due(what + ": the emptied buffer", x.append(0, 0, 0, 0, 0), 20);
    }

    void note(boolean isRight, String complaint) {
        if (isRight) {
            right++;
        } else {
            wrong++;
            System.out.println(complaint.replaceAll("(.)\\1{19,}", "$1..$1"));
        }
    }

    void finish() {
        System.out.println(right + " answers as due, " + wrong + " not");
        if (wrong != 0 || right == 0) {
            System.exit(1);
        }
    }

    /** Appends a text of any length: spaces fill the last twenty bytes and are cut off. */
    static void feed(ChainSurvey x, String text) {
        byte[] bytes = text.getBytes(StandardCharsets.ISO_8859_1);
        int begin = x.append(0, 0, 0, 0, 0) - 20;
        x.truncateInput(begin);
        for (int i = 0; i < bytes.length; i += 20) {
            x.append(word(bytes, i), word(bytes, i + 4), word(bytes, i + 8), word(bytes, i + 12), word(bytes, i + 16));
        }
        x.truncateInput(begin + bytes.length);
    }

    private static int word(byte[] bytes, int from) {
        int word = 0;
        for (int i = from; i < from + 4; i++) {
            word = word << 8 | (i < bytes.length ? bytes[i] & 255 : 32);
        }
        return word;
    }

    static int load(ChainSurvey x, String text) {
        feed(x, text);
        return x.load();
    }

    static int play(ChainSurvey x, String text) {
        feed(x, text);
        return x.play();
    }

    static ChainSurvey loaded(String text) {
        ChainSurvey x = new ChainSurvey();
        load(x, text);
        return x;
    }

    static String nameOf(ChainSurvey x, int leg) {
        StringBuilder name = new StringBuilder();
        for (int sign = x.nameByte(leg, 0); sign != ChainSurvey.NONE; sign = x.nameByte(leg, name.length())) {
            name.append((char) sign);
        }
        return name.toString();
    }

    static String output(ChainSurvey x) {
        StringBuilder text = new StringBuilder();
        for (int sign = x.outputByte(0); sign != ChainSurvey.NONE; sign = x.outputByte(text.length())) {
            text.append((char) sign);
        }
        return text.toString();
    }

    /** All that undo and restore bring back, as far as it can be seen. */
    static String stateOf(ChainSurvey x) {
        StringBuilder text = new StringBuilder();
        text.append(x.wear()).append(' ').append(x.pace()).append(' ').append(x.isAdjusted());
        for (int leg = 0; leg < x.legCount(); leg++) {
            text.append("; ").append(nameOf(x, leg)).append(' ').append(x.bearing(leg)).append(' ').append(x.isBog(leg));
            text.append(' ').append(x.pins(leg)).append(' ').append(x.droppedPins(leg)).append(' ').append(x.readLength(leg));
            text.append(' ').append(x.slopeLength(leg)).append(' ').append(x.horizontalLength(leg));
        }
        return text.toString();
    }
}
