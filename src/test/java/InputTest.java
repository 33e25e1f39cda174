/** Promises 2, 3 and 36: append, truncateInput and findLeg. */
public final class InputTest {
    private static final Checks checks = new Checks();

    public static void main(String[] args) {
        appendOrdersBytes();
        appendStopsAt900();
        truncateKeepsToTheLength();
        findLegTakesTheWholeBuffer();
        checks.finish();
    }

    private static void appendOrdersBytes() {
        ChainSurvey x = new ChainSurvey();
        // "surv" "ey 7" " 100" ";leg" " a 0", most significant byte first.
        checks.due("append", x.append(0x73757276, 0x65792037, 0x20313030, 0x3b6c6567, 0x20612030), 20);
        checks.due("append", x.append(0x20312032, 0x3b000000, 0, 0, 0), 40);
        checks.due("truncateInput(25)", x.truncateInput(25), 25);
        checks.due("load()", x.load(), 1);
        checks.due("wear()", x.wear(), 7);
        checks.due("pace()", x.pace(), 100);
        checks.due("readLength(0)", x.readLength(0), 10200);
        checks.due("append behind load()", x.append(1, 2, 3, 4, 5), 20);
        x.play();
        checks.due("append behind play()", x.append(1, 2, 3, 4, 5), 20);

        ChainSurvey y = new ChainSurvey();
        y.append(0x80ffe120, -1, Integer.MIN_VALUE, Integer.MAX_VALUE, 0);
        checks.due("play() of bytes above 127", y.play(), -1);
        checks.due("errorCode()", y.errorCode(), 1);
        checks.due("errorOffset()", y.errorOffset(), 0);
    }

    private static void appendStopsAt900() {
        ChainSurvey x = new ChainSurvey();
        for (int length = 20; length <= 900; length += 20) {
            checks.due("append to " + length, x.append(0x20202020, 0x20202020, 0x20202020, 0x20202020, 0x20202020), length);
        }
        checks.due("append to 920", x.append(1, 1, 1, 1, 1), -1);
        checks.due("append to 920 again", x.append(1, 1, 1, 1, 1), -1);
        checks.due("truncateInput(881)", x.truncateInput(881), 881);
        checks.due("append to 901", x.append(1, 1, 1, 1, 1), -1);
        checks.due("truncateInput(880)", x.truncateInput(880), 880);
        checks.due("append to 900", x.append(0x20202020, 0x20202020, 0x20202020, 0x20202020, 0x20202020), 900);
        checks.due("play() of 900 spaces", x.play(), 0);
        checks.due("undoableChanges()", x.undoableChanges(), 1);
    }

    private static void truncateKeepsToTheLength() {
        ChainSurvey x = new ChainSurvey();
        x.append(0, 0, 0, 0, 0);
        checks.dueThrow("truncateInput(21)", Checks.ARGUMENT, () -> x.truncateInput(21));
        checks.dueThrow("truncateInput(-1)", Checks.ARGUMENT, () -> x.truncateInput(-1));
        checks.dueThrow("truncateInput(MIN)", Checks.ARGUMENT, () -> x.truncateInput(Integer.MIN_VALUE));
        checks.dueThrow("truncateInput(MAX)", Checks.ARGUMENT, () -> x.truncateInput(Integer.MAX_VALUE));
        checks.due("truncateInput(20)", x.truncateInput(20), 20);
        checks.due("truncateInput(3)", x.truncateInput(3), 3);
        checks.dueThrow("truncateInput(4)", Checks.ARGUMENT, () -> x.truncateInput(4));
        checks.due("append behind 3 bytes", x.append(0, 0, 0, 0, 0), 23);
        checks.due("truncateInput(0)", x.truncateInput(0), 0);
        checks.due("truncateInput is no change", x.undoableChanges(), 0);
    }

    private static void findLegTakesTheWholeBuffer() {
        String[] texts = {"oak", "mill", "barn", "reed", "", "oa", "oaks", " oak", "oak ", "OAK", "oak;", "millio", "millionx", "o k", "\u00efak"};
        int[] due = {0, 1, 2, 3, -1, -1, -1, -1, -1, -1, -1, -1, -1, -1, -1};
        for (int i = 0; i < texts.length; i++) {
            ChainSurvey x = new ChainSurvey();
            Checks.feed(x, texts[i]);
            checks.due("findLeg() of \"" + texts[i] + "\"", x.findLeg(), due[i]);
            checks.due("findLeg() again", x.findLeg(), due[i]);
            checks.due("the length of the kept buffer", x.truncateInput(texts[i].length()), texts[i].length());
        }
        ChainSurvey x = Checks.loaded("survey 0 100; leg abcdef 0 1 0; leg bcdef 0 1 0; leg a 0 1 0;");
        String[] names = {"abcdef", "bcdef", "a", "abcde", "abcdefg"};
        int[] legs = {0, 1, 2, -1, -1};
        for (int i = 0; i < names.length; i++) {
            x.truncateInput(0);
            Checks.feed(x, names[i]);
            checks.due("findLeg() of " + names[i], x.findLeg(), legs[i]);
        }
        ChainSurvey two = Checks.loaded("survey 0 100;leg ba 0 1 0;leg a 0 1 0;");
        String[] others = {"ba", "a", "cA", "`a", "b{", "b", "ab", "aa", "\u00e1"};
        for (int i = 0; i < others.length; i++) {
            two.truncateInput(0);
            Checks.feed(two, others[i]);
            checks.due("findLeg() of " + others[i], two.findLeg(), i < 2 ? i : -1);
        }
        x.removeLast();
        x.truncateInput(0);
        Checks.feed(x, "a");
        checks.due("findLeg() of a removed leg", x.findLeg(), -1);
        checks.due("findLeg() is no change", x.undoableChanges(), 2);
    }
}
