/** Promises 8 to 18: the changes, undo, save and restore. */
public final class ChangeTest {
    private static final Checks checks = new Checks();

    public static void main(String[] args) {
        addLegNamesAndCounts();
        addLegRanges();
        addBogNamesAndRanges();
        twentyLegsAreAll();
        aTakenNameIsRefused();
        pins();
        removeLast();
        wearAndPace();
        adjusted();
        undoTakesBackTheLatestEight();
        undoKeepsTheRest();
        saveAndRestore();
        checks.finish();
    }

    private static void addLegNamesAndCounts() {
        ChainSurvey x = new ChainSurvey();
        checks.due("addLeg", x.addLeg(45, 1, 2, 60, 25), 4);
        checks.due("name", Checks.nameOf(x, 4), "qe");
        checks.due("bearing(4)", x.bearing(4), 45);
        checks.due("pins(4)", x.pins(4), 1);
        checks.due("droppedPins(4)", x.droppedPins(4), 0);
        checks.due("readLength(4)", x.readLength(4), 10200);
        checks.due("slopeLength(4)", x.slopeLength(4), 10226);
        checks.due("horizontalLength(4)", x.horizontalLength(4), 8280);
        checks.due("isBog(4)", x.isBog(4), false);
        checks.due("undoableChanges()", x.undoableChanges(), 1);
        ChainSurvey y = Checks.loaded("survey 0 100;");
        checks.due("addLeg", y.addLeg(0, 0, 0, 0, 0), 0);
        checks.due("name", Checks.nameOf(y, 0), "qa");
        checks.due("addLeg", y.addLeg(345, 99, 99, 9999, 50), 1);
        checks.due("name", Checks.nameOf(y, 1), "qb");
    }

    private static void addLegRanges() {
        ChainSurvey x = new ChainSurvey();
        String before = Checks.stateOf(x);
        int[][] wrong = {
            {-15, 1, 1, 1, 1}, {360, 1, 1, 1, 1}, {1, 1, 1, 1, 1}, {346, 1, 1, 1, 1}, {Integer.MIN_VALUE, 1, 1, 1, 1},
            {0, -1, 1, 1, 1}, {0, 100, 1, 1, 1}, {0, 1, -1, 1, 1}, {0, 1, 100, 1, 1}, {0, 1, 1, -1, 1},
            {0, 1, 1, 10000, 1}, {0, 1, 1, 1, -1}, {0, 1, 1, 1, 51}, {0, Integer.MAX_VALUE, 1, 1, 1},
        };
        for (int[] w : wrong) {
            checks.dueThrow("addLeg(" + w[0] + ", " + w[1] + ", " + w[2] + ", " + w[3] + ", " + w[4] + ")", Checks.ARGUMENT,
                    () -> x.addLeg(w[0], w[1], w[2], w[3], w[4]));
        }
        checks.due("state", Checks.stateOf(x), before);
        checks.due("undoableChanges()", x.undoableChanges(), 0);
    }

    private static void addBogNamesAndRanges() {
        ChainSurvey x = new ChainSurvey();
        checks.due("addBog", x.addBog(345, 999), 4);
        checks.due("name", Checks.nameOf(x, 4), "qe");
        checks.due("bearing(4)", x.bearing(4), 345);
        checks.due("isBog(4)", x.isBog(4), true);
        checks.due("pins(4)", x.pins(4), 0);
        checks.due("droppedPins(4)", x.droppedPins(4), 0);
        checks.due("readLength(4)", x.readLength(4), 299700);
        checks.due("addBog", x.addBog(0, 1), 5);
        checks.due("name", Checks.nameOf(x, 5), "qf");
        String before = Checks.stateOf(x);
        int[][] wrong = {{-15, 1}, {360, 1}, {7, 1}, {0, 0}, {0, -1}, {0, 1000}, {0, Integer.MAX_VALUE}, {Integer.MAX_VALUE, 1}};
        for (int[] w : wrong) {
            checks.dueThrow("addBog(" + w[0] + ", " + w[1] + ")", Checks.ARGUMENT, () -> x.addBog(w[0], w[1]));
        }
        checks.due("state", Checks.stateOf(x), before);
        checks.due("undoableChanges()", x.undoableChanges(), 2);
    }

    private static void twentyLegsAreAll() {
        ChainSurvey x = Checks.loaded("survey 0 100;");
        for (int leg = 0; leg < 20; leg++) {
            checks.due("the number of a leg", leg % 2 == 0 ? x.addBog(0, 1) : x.addLeg(15, 1, 1, 1, 1), leg);
            checks.due("its name", Checks.nameOf(x, leg), "q" + (char) ('a' + leg));
        }
        checks.dueThrow("a 21st leg", Checks.STATE, () -> x.addLeg(0, 1, 1, 1, 1));
        checks.dueThrow("a 21st bog leg", Checks.STATE, () -> x.addBog(0, 1));
        checks.dueThrow("a 21st leg that is wrong", Checks.ARGUMENT, () -> x.addLeg(1, 1, 1, 1, 1));
        checks.dueThrow("a 21st bog leg that is wrong", Checks.ARGUMENT, () -> x.addBog(0, 0));
        checks.due("legCount()", x.legCount(), 20);
        checks.due("undoableChanges()", x.undoableChanges(), 8);
    }

    private static void aTakenNameIsRefused() {
        ChainSurvey x = Checks.loaded("survey 0 100;leg qb 0 1 0;");
        checks.dueThrow("addLeg beside qb", Checks.STATE, () -> x.addLeg(0, 1, 1, 1, 1));
        checks.dueThrow("addBog beside qb", Checks.STATE, () -> x.addBog(0, 1));
        checks.dueThrow("addBog beside qb, wrong", Checks.ARGUMENT, () -> x.addBog(1, 1));
        checks.due("undoableChanges()", x.undoableChanges(), 1);
        Checks.play(x, "leg qd 0 1 0;");
        checks.due("addBog beside qb and qd", x.addBog(0, 1), 2);
        checks.dueThrow("addBog beside qd", Checks.STATE, () -> x.addBog(0, 1));
        x.removeLast();
        x.removeLast();
        x.removeLast();
        checks.due("addBog without legs", x.addBog(0, 1), 0);
        checks.due("addBog behind qa, qb being gone", x.addBog(0, 1), 1);
    }

    private static void pins() {
        ChainSurvey x = new ChainSurvey();
        for (int leg : new int[] {-1, 4, 20, Integer.MIN_VALUE, Integer.MAX_VALUE}) {
            checks.dueThrow("dropPin(" + leg + ")", Checks.INDEX, () -> x.dropPin(leg));
            checks.dueThrow("findPin(" + leg + ")", Checks.INDEX, () -> x.findPin(leg));
        }
        checks.dueThrow("dropPin(3)", Checks.STATE, () -> x.dropPin(3));
        checks.dueThrow("findPin(3)", Checks.STATE, () -> x.findPin(3));
        checks.dueThrow("findPin(0)", Checks.STATE, () -> x.findPin(0));
        checks.due("undoableChanges()", x.undoableChanges(), 0);
        for (int dropped = 2; dropped <= 9; dropped++) {
            checks.due("dropPin(1)", x.dropPin(1), dropped);
        }
        checks.dueThrow("dropPin(1) of 9", Checks.STATE, () -> x.dropPin(1));
        checks.due("pins(1)", x.pins(1), 3);
        checks.due("readLength(1)", x.readLength(1), 120000);
        for (int dropped = 8; dropped >= 0; dropped--) {
            checks.due("findPin(1)", x.findPin(1), dropped);
        }
        checks.dueThrow("findPin(1) of 0", Checks.STATE, () -> x.findPin(1));
        checks.due("pins(1)", x.pins(1), 3);
        checks.due("droppedPins(1)", x.droppedPins(1), 0);
        checks.due("undoableChanges()", x.undoableChanges(), 8);
    }

    private static void removeLast() {
        ChainSurvey x = new ChainSurvey();
        for (int left = 3; left >= 0; left--) {
            checks.due("removeLast()", x.removeLast(), left);
            checks.due("legCount()", x.legCount(), left);
        }
        checks.dueThrow("removeLast() of no leg", Checks.STATE, () -> x.removeLast());
        checks.due("undoableChanges()", x.undoableChanges(), 4);
        checks.due("undo()", x.undo(), 3);
        checks.due("name", Checks.nameOf(x, 0), "oak");
        // What a removed leg held must not be seen in the next one.
        ChainSurvey y = Checks.loaded("survey 9 100;leg a 15 7 8 dropped 5 rise 60 at 40;");
        y.removeLast();
        y.addLeg(30, 1, 0, 0, 15);
        checks.due("a leg behind a removed one", Checks.stateOf(y), "9 100 false; qa 30 false 1 0 10000 10009 10009");
        y.removeLast();
        y.addBog(45, 2);
        checks.due("a bog leg behind a removed one", Checks.stateOf(y), "9 100 false; qa 45 true 0 0 200 200 200");
        y.removeLast();
        y.addLeg(30, 1, 0, 0, 15);
        checks.due("a leg behind a removed bog leg", Checks.stateOf(y), "9 100 false; qa 30 false 1 0 10000 10009 10009");
    }

    private static void wearAndPace() {
        ChainSurvey x = new ChainSurvey();
        checks.due("setWear(0)", x.setWear(0), 25);
        checks.due("setWear(999)", x.setWear(999), 0);
        checks.due("wear()", x.wear(), 999);
        checks.due("setPace(100)", x.setPace(100), 300);
        checks.due("setPace(999)", x.setPace(999), 100);
        checks.due("pace()", x.pace(), 999);
        for (int wrong : new int[] {-1, 1000, Integer.MIN_VALUE, Integer.MAX_VALUE}) {
            checks.dueThrow("setWear(" + wrong + ")", Checks.ARGUMENT, () -> x.setWear(wrong));
            checks.dueThrow("setPace(" + wrong + ")", Checks.ARGUMENT, () -> x.setPace(wrong));
        }
        checks.dueThrow("setPace(99)", Checks.ARGUMENT, () -> x.setPace(99));
        checks.dueThrow("setPace(0)", Checks.ARGUMENT, () -> x.setPace(0));
        checks.due("undoableChanges()", x.undoableChanges(), 4);
        checks.due("setPace(999)", x.setPace(999), 999);
        checks.due("setWear(999)", x.setWear(999), 999);
        checks.due("changes without an effect count", x.undoableChanges(), 6);
    }

    private static void adjusted() {
        ChainSurvey x = new ChainSurvey();
        checks.due("setAdjusted(true)", x.setAdjusted(true), true);
        checks.due("setAdjusted(false)", x.setAdjusted(false), true);
        checks.due("isAdjusted()", x.isAdjusted(), false);
        checks.due("setAdjusted(false)", x.setAdjusted(false), false);
        checks.due("setAdjusted(true)", x.setAdjusted(true), false);
        checks.due("isAdjusted()", x.isAdjusted(), true);
        checks.due("undoableChanges()", x.undoableChanges(), 4);
    }

    private static void undoTakesBackTheLatestEight() {
        ChainSurvey x = new ChainSurvey();
        checks.dueThrow("undo() of nothing", Checks.STATE, () -> x.undo());
        for (int wear = 1; wear <= 21; wear++) {
            x.setWear(wear);
            checks.due("undoableChanges()", x.undoableChanges(), Math.min(wear, 8));
        }
        for (int left = 7; left >= 0; left--) {
            checks.due("undo()", x.undo(), left);
            checks.due("wear()", x.wear(), 13 + left);
        }
        checks.dueThrow("a ninth undo()", Checks.STATE, () -> x.undo());
        checks.due("wear()", x.wear(), 13);
        x.setWear(50);
        checks.due("undoableChanges()", x.undoableChanges(), 1);
        checks.due("undo()", x.undo(), 0);
        checks.due("wear()", x.wear(), 13);

        ChainSurvey y = new ChainSurvey();
        String first = Checks.stateOf(y);
        y.addLeg(45, 1, 1, 1, 1);
        y.addBog(0, 9);
        y.dropPin(0);
        y.findPin(1);
        y.setPace(111);
        y.setAdjusted(false);
        y.save(1);
        y.restore(1);
        Checks.play(y, "back;back;wear 3;");
        checks.due("undoableChanges()", y.undoableChanges(), 8);
        for (int left = 7; left >= 0; left--) {
            checks.due("undo()", y.undo(), left);
        }
        checks.due("state", Checks.stateOf(y), first);
    }

    private static void undoKeepsTheRest() {
        ChainSurvey x = new ChainSurvey();
        x.setWear(5);
        x.save(0);
        Checks.play(x, "nothing");
        x.writeStations();
        String output = Checks.output(x);
        Checks.feed(x, "oak");
        x.undo();
        checks.due("the saved state", x.restore(0), 4);
        checks.due("its wear", x.wear(), 5);
        checks.due("errorCode()", x.errorCode(), 1);
        checks.due("errorOffset()", x.errorOffset(), 0);
        checks.due("output", Checks.output(x), output);
        checks.due("findLeg()", x.findLeg(), 0);
    }

    private static void saveAndRestore() {
        ChainSurvey x = new ChainSurvey();
        String first = Checks.stateOf(x);
        for (int slot : new int[] {-1, 2, Integer.MIN_VALUE, Integer.MAX_VALUE}) {
            checks.dueThrow("save(" + slot + ")", Checks.ARGUMENT, () -> x.save(slot));
            checks.dueThrow("restore(" + slot + ")", Checks.ARGUMENT, () -> x.restore(slot));
        }
        checks.due("save(0)", x.save(0), 4);
        checks.dueThrow("restore(1)", Checks.STATE, () -> x.restore(1));
        checks.due("save() is no change", x.undoableChanges(), 0);
        Checks.play(x, "back;back;raw;wear 2;pace 222;");
        checks.due("save(1)", x.save(1), 2);
        String second = Checks.stateOf(x);
        checks.due("restore(0)", x.restore(0), 4);
        checks.due("state", Checks.stateOf(x), first);
        checks.due("undoableChanges()", x.undoableChanges(), 2);
        x.dropPin(0);
        checks.due("restore(1)", x.restore(1), 2);
        checks.due("state", Checks.stateOf(x), second);
        checks.due("restore(0)", x.restore(0), 4);
        checks.due("a change leaves the saved state alone", Checks.stateOf(x), first);
        checks.due("undo()", x.undo(), 4);
        checks.due("state", Checks.stateOf(x), second);
        checks.due("save(0) again", x.save(0), 2);
        checks.due("undo()", x.undo(), 3);
        checks.due("restore(0)", x.restore(0), 2);
        checks.due("state", Checks.stateOf(x), second);
    }
}
