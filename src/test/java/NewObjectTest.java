/** Promise 1. */
public final class NewObjectTest {
    private static final String SETUP = "survey 25 300; leg oak 90 4 0; leg mill 0 3 0 dropped 1; leg barn 270 4 5 at 25; bog reed 180 130; adjust;";

    public static void main(String[] args) {
        Checks checks = new Checks();
        ChainSurvey x = new ChainSurvey();
        String[] names = {"oak", "mill", "barn", "reed"};
        int[] bearings = {90, 0, 270, 180};
        int[] pins = {4, 3, 4, 0};
        int[] dropped = {0, 1, 0, 0};
        int[] reads = {40000, 40000, 40500, 39000};
        int[] slopes = {40100, 40100, 40605, 39000};
        checks.due("legCount()", x.legCount(), 4);
        for (int leg = 0; leg < 4; leg++) {
            checks.due("name of " + leg, Checks.nameOf(x, leg), names[leg]);
            checks.due("bearing(" + leg + ")", x.bearing(leg), bearings[leg]);
            checks.due("pins(" + leg + ")", x.pins(leg), pins[leg]);
            checks.due("droppedPins(" + leg + ")", x.droppedPins(leg), dropped[leg]);
            checks.due("readLength(" + leg + ")", x.readLength(leg), reads[leg]);
            checks.due("slopeLength(" + leg + ")", x.slopeLength(leg), slopes[leg]);
            checks.due("horizontalLength(" + leg + ")", x.horizontalLength(leg), slopes[leg]);
            checks.due("isBog(" + leg + ")", x.isBog(leg), leg == 3);
        }
        checks.due("wear()", x.wear(), 25);
        checks.due("pace()", x.pace(), 300);
        checks.due("isAdjusted()", x.isAdjusted(), true);
        checks.due("undoableChanges()", x.undoableChanges(), 0);
        checks.due("errorCode()", x.errorCode(), 0);
        checks.due("errorOffset()", x.errorOffset(), -1);
        checks.due("outputByte(0)", x.outputByte(0), -1);
        checks.due("findLeg() of the empty buffer", x.findLeg(), -1);
        checks.due("truncateInput(0)", x.truncateInput(0), 0);
        checks.dueThrow("truncateInput(1)", Checks.ARGUMENT, () -> x.truncateInput(1));
        checks.dueThrow("undo()", Checks.STATE, () -> x.undo());
        checks.dueThrow("restore(0)", Checks.STATE, () -> x.restore(0));
        checks.dueThrow("restore(1)", Checks.STATE, () -> x.restore(1));

        checks.due("the state that load() makes of the text", Checks.stateOf(x), Checks.stateOf(Checks.loaded(SETUP)));
        x.addBog(0, 1);
        checks.due("another new object", new ChainSurvey().legCount(), 4);
        checks.due("NONE", ChainSurvey.NONE, -1);
        checks.finish();
    }
}
