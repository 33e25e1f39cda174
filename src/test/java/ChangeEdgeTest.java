/** The edges of promises 1 and 8 to 18, of "Legs" and of "Undo and exceptions"; what is refused stands in RefusedTest. */
public final class ChangeEdgeTest {
    private static final Checks checks = new Checks();
    private static final String HEAD = "survey 0 100;";

    private record Change(String name, Probes.Call call) {
    }

    /** Every kind of change, possible with the legs of a new object and with those of begun(). */
    private static final Change[] CHANGES = {
        new Change("load", x -> Checks.load(x, "survey 77 777;leg elm 30 1 1 dropped 2 rise 3 at 4;")),
        new Change("play", x -> Checks.play(x, "wear 55;back;raw;")),
        new Change("play of nothing", x -> Checks.play(x, "")),
        new Change("addLeg", x -> x.addLeg(30, 7, 7, 7, 7)),
        new Change("addBog", x -> x.addBog(60, 77)),
        new Change("dropPin", x -> x.dropPin(0)),
        new Change("findPin", x -> x.findPin(1)),
        new Change("removeLast", x -> x.removeLast()),
        new Change("setWear", x -> x.setWear(888)),
        new Change("setPace", x -> x.setPace(888)),
        new Change("setAdjusted", x -> x.setAdjusted(!x.isAdjusted())),
        new Change("restore(0)", x -> x.restore(0)),
        new Change("restore(1)", x -> x.restore(1)),
    };

    /** Changes that leave the state of a new object as it is; they count all the same. */
    private static final Change[] CHANGES_WITHOUT_EFFECT = {
        new Change("load", x -> Checks.load(x, "survey 25 300; leg oak 90 4 0; leg mill 0 3 0 dropped 1; leg barn 270 4 5 at 25; bog reed 180 130; adjust;")),
        new Change("play", x -> Checks.play(x, "wear 25;pace 300;adjust;drop oak;found oak;back;bog reed 180 130;")),
        new Change("play of nothing", x -> Checks.play(x, "")),
        new Change("setWear", x -> x.setWear(25)),
        new Change("setPace", x -> x.setPace(300)),
        new Change("setAdjusted", x -> x.setAdjusted(true)),
        new Change("restore", x -> x.restore(0)),
    };

    /** Calls that are no changes, whether they are successful or not. */
    private static final Change[] NO_CHANGES = {
        new Change("append", x -> x.append(1, 2, 3, 4, 5)), new Change("truncateInput", x -> x.truncateInput(0)),
        new Change("save(0)", x -> x.save(0)), new Change("save(1)", x -> x.save(1)), new Change("writeStations", x -> x.writeStations()),
        new Change("a failed load", x -> Checks.load(x, "survey")), new Change("a failed play", x -> Checks.play(x, "raw;raw")),
        new Change("findLeg", x -> x.findLeg()), new Change("suspectLeg", x -> x.suspectLeg()), new Change("bestPace", x -> x.bestPace()),
        new Change("misclosureIfDropped", x -> x.misclosureIfDropped(0)),
    };

    public static void main(String[] args) {
        aNewObject();
        everyNumberOfALegIsTaken();
        theNamesOfTwentyLegs();
        aNameIsTaken();
        pinsFromNoneToNine();
        theLastLegIsRemoved();
        wearAndPaceAnswerThePreviousOne();
        adjustedAnswersThePreviousOne();
        eachKindIsOneChange();
        changesWithoutAnEffectCount();
        otherCallsAreNoChanges();
        theNinthDiscardsTheOldest();
        anUndoneChangeCannotBeRedone();
        undoBringsBackEverything();
        undoLeavesTheRest();
        restoreLeavesTheRest();
        slotsAreTwo();
        aSavedStateWithoutLegs();
        theStateStaysSaved();
        fiveHundredCalls();
        checks.finish();
    }

    /** A new object with two saved states that differ from it and from each other, and nothing to undo. */
    private static ChainSurvey begun() {
        ChainSurvey x = new ChainSurvey();
        x.setWear(333);
        x.save(0);
        x.undo();
        x.removeLast();
        x.save(1);
        x.undo();
        return x;
    }

    // ---- promise 1

    private static void aNewObject() {
        ChainSurvey x = new ChainSurvey();
        checks.due("undoableChanges()", x.undoableChanges(), 0);
        checks.due("errorCode()", x.errorCode(), 0);
        checks.due("errorOffset()", x.errorOffset(), -1);
        checks.due("an empty output", x.outputByte(0), -1);
        checks.due("an empty input buffer", Probes.lengthOfBuffer(x), 0);
        checks.due("play() of it", x.play(), 0);
        checks.due("load() of another empty one", new ChainSurvey().load(), -1);
        checks.due("state", Checks.stateOf(x), "25 300 true; oak 90 false 4 0 40000 40100 40100; mill 0 false 3 1 40000 40100 40100;"
                + " barn 270 false 4 0 40500 40605 40605; reed 180 true 0 0 39000 39000 39000");
        // One object's calls are not seen in another one.
        Probes.busy();
        Probes.dueSame(checks, "another object's calls", ChainSurvey::new, y -> Probes.busy());
    }

    // ---- promises 8 and 9

    private static void everyNumberOfALegIsTaken() {
        for (int pins : new int[] {0, 1, 98, 99}) {
            for (int links : new int[] {0, 1, 98, 99}) {
                ChainSurvey x = Checks.loaded(HEAD);
                checks.due("addLeg", x.addLeg(0, pins, links, 0, 15), 0);
                checks.due("state", Checks.stateOf(x), dueLeg(pins, links, pins * 10000 + links * 100));
            }
        }
        int[] rises = {0, 1, 9998, 9999};
        int[] levels = {999999, 999998, 19948, 14070};
        for (int i = 0; i < rises.length; i++) {
            ChainSurvey x = Checks.loaded("survey 1 100;");
            checks.due("addLeg with a rise of " + rises[i], x.addLeg(0, 99, 99, rises[i], 15), 0);
            checks.due("slopeLength(0)", x.slopeLength(0), 999999);
            checks.due("horizontalLength(0)", x.horizontalLength(0), levels[i]);
        }
        int[] temperatures = {0, 1, 14, 15, 16, 49, 50};
        int[] slopes = {999721, 999733, 999889, 999900, 999911, 1000307, 1000319};
        for (int i = 0; i < temperatures.length; i++) {
            ChainSurvey x = Checks.loaded(HEAD);
            checks.due("addLeg at " + temperatures[i], x.addLeg(0, 99, 99, 0, temperatures[i]), 0);
            checks.due("slopeLength(0)", x.slopeLength(0), slopes[i]);
        }
        for (int paces : new int[] {1, 2, 998, 999}) {
            ChainSurvey x = Checks.loaded(HEAD);
            checks.due("addBog", x.addBog(345, paces), 0);
            checks.due("readLength(0)", x.readLength(0), paces * 100);
            checks.due("bearing(0)", x.bearing(0), 345);
        }
    }

    private static String dueLeg(int pins, int links, int length) {
        return "0 100 false; qa 0 false " + pins + " 0 " + length + " " + length + " " + length;
    }

    /** "qa for leg 0, qb for leg 1, and so on", to qt for leg 19. */
    private static void theNamesOfTwentyLegs() {
        String letters = "abcdefghijklmnopqrst";
        for (int legs = 0; legs < 20; legs++) {
            ChainSurvey x = Probes.loaded(legs);
            checks.due("addLeg to " + legs, x.addLeg(0, 1, 1, 1, 1), legs);
            checks.due("its name", Checks.nameOf(x, legs), "q" + letters.charAt(legs));
            checks.due("legCount()", x.legCount(), legs + 1);
            x.undo();
            checks.due("addBog to " + legs, x.addBog(0, 1), legs);
            checks.due("its name", Checks.nameOf(x, legs), "q" + letters.charAt(legs));
            checks.due("stationCount()", x.stationCount(), legs + 2);
        }
    }

    /** "A leg has this name": it alone counts, wherever it stands, and only while it stands. */
    private static void aNameIsTaken() {
        String letters = "abcdefghijklmnopqrst";
        for (int legs = 1; legs < 20; legs++) {
            String name = "q" + letters.charAt(legs);
            int place = legs / 2;
            Probes.Making making = named(legs, place, name);
            Probes.dueRefused(checks, "addLeg beside " + name, Checks.STATE, making, x -> x.addLeg(0, 1, 1, 1, 1));
            Probes.dueRefused(checks, "addBog beside " + name, Checks.STATE, making, x -> x.addBog(0, 1));
            for (String other : new String[] {"q", name + "a", "a" + name, "z" + letters.charAt(legs), "qu", "q" + letters.charAt(legs - 1)}) {
                checks.due("addLeg beside " + other, named(legs, place, other).make().addLeg(0, 1, 1, 1, 1), legs);
                checks.due("addBog beside " + other, named(legs, place, other).make().addBog(0, 1), legs);
            }
        }
        ChainSurvey x = named(2, 1, "qc").make();
        x.removeLast();
        checks.due("addBog, qc being removed", x.addBog(0, 1), 1);
        checks.due("addLeg, qc being removed", x.addLeg(0, 1, 1, 1, 1), 2);
        checks.due("the name", Checks.nameOf(x, 2), "qc");
    }

    private static Probes.Making named(int legs, int place, String name) {
        StringBuilder text = new StringBuilder(HEAD);
        for (int leg = 0; leg < legs; leg++) {
            text.append("bog ").append(leg == place ? name : "x" + (char) ('a' + leg)).append(" 0 1;");
        }
        return () -> Checks.loaded(text.toString());
    }

    // ---- promises 10 to 15

    private static void pinsFromNoneToNine() {
        ChainSurvey x = Checks.loaded("survey 0 100;leg a 0 99 99;bog b 0 1;leg c 0 0 0;");
        for (int leg : new int[] {0, 2}) {
            int pins = x.pins(leg);
            for (int dropped = 1; dropped <= 9; dropped++) {
                checks.due("dropPin(" + leg + ")", x.dropPin(leg), dropped);
                checks.due("droppedPins(" + leg + ")", x.droppedPins(leg), dropped);
                checks.due("as many pins as before", x.pins(leg), pins);
                checks.due("readLength(" + leg + ")", x.readLength(leg), leg == 0 ? 999900 + dropped * 10000 : dropped * 10000);
            }
            checks.dueThrow("a tenth dropPin(" + leg + ")", Checks.STATE, () -> x.dropPin(leg));
            for (int dropped = 8; dropped >= 0; dropped--) {
                checks.due("findPin(" + leg + ")", x.findPin(leg), dropped);
                checks.due("as many pins as before", x.pins(leg), pins);
            }
            checks.dueThrow("a tenth findPin(" + leg + ")", Checks.STATE, () -> x.findPin(leg));
        }
        checks.due("the other legs", Checks.stateOf(x),
                "0 100 false; a 0 false 99 0 999900 999900 999900; b 0 true 0 0 100 100 100; c 0 false 0 0 0 0 0");
        ChainSurvey full = Probes.loaded(20);
        checks.due("dropPin(19)", full.dropPin(19), 1);
        checks.due("findPin(19)", full.findPin(19), 0);
    }

    private static void theLastLegIsRemoved() {
        ChainSurvey x = Probes.loaded(20);
        for (int left = 19; left >= 0; left--) {
            checks.due("removeLast()", x.removeLast(), left);
            checks.due("legCount()", x.legCount(), left);
            checks.due("stationCount()", x.stationCount(), left + 1);
        }
        checks.dueThrow("removeLast() of none", Checks.STATE, () -> x.removeLast());
        checks.due("undo()", x.undo(), 7);
        checks.due("the first leg is back", Checks.nameOf(x, 0), "xa");
        checks.due("no other leg is", x.legCount(), 1);
    }

    private static void wearAndPaceAnswerThePreviousOne() {
        ChainSurvey x = new ChainSurvey();
        int wear = 25;
        for (int next : new int[] {0, 999, 998, 1, 1, 0, 0}) {
            checks.due("setWear(" + next + ")", x.setWear(next), wear);
            checks.due("wear()", x.wear(), next);
            wear = next;
        }
        int pace = 300;
        for (int next : new int[] {100, 999, 998, 101, 101, 100, 100}) {
            checks.due("setPace(" + next + ")", x.setPace(next), pace);
            checks.due("pace()", x.pace(), next);
            pace = next;
        }
        checks.due("the wear stays", x.wear(), 0);
    }

    private static void adjustedAnswersThePreviousOne() {
        ChainSurvey x = Checks.loaded(HEAD);
        boolean previous = false;
        for (boolean next : new boolean[] {false, true, true, false, false, true}) {
            checks.due("setAdjusted(" + next + ")", x.setAdjusted(next), previous);
            checks.due("isAdjusted()", x.isAdjusted(), next);
            previous = next;
        }
    }

    // ---- changes and undo

    private static void eachKindIsOneChange() {
        for (Change change : CHANGES) {
            ChainSurvey x = begun();
            change.call.on(x);
            checks.due("undoableChanges() after " + change.name, x.undoableChanges(), 1);
            checks.due("another state after " + change.name, Checks.stateOf(x).equals(Checks.stateOf(begun())), change.name.equals("play of nothing"));
            checks.due("undo() of " + change.name, x.undo(), 0);
            checks.due("state after undo() of " + change.name, Checks.stateOf(x), Checks.stateOf(begun()));
            checks.dueThrow("a second undo() of " + change.name, Checks.STATE, () -> x.undo());
        }
    }

    private static void changesWithoutAnEffectCount() {
        for (Change change : CHANGES_WITHOUT_EFFECT) {
            ChainSurvey x = new ChainSurvey();
            x.save(0);
            for (int times = 1; times <= 10; times++) {
                change.call.on(x);
                checks.due("undoableChanges() after " + change.name, x.undoableChanges(), Math.min(times, 8));
            }
            checks.due("the state after " + change.name, Checks.stateOf(x), Checks.stateOf(new ChainSurvey()));
        }
    }

    private static void otherCallsAreNoChanges() {
        for (Change call : NO_CHANGES) {
            Probes.dueSame(checks, call.name, Probes::busy, call.call, Probes.BUFFER, Probes.REPORT, Probes.OUTPUT, Probes.SLOTS);
            Probes.dueSame(checks, call.name, Probes::empty, x -> {
                if (x.legCount() > 0 || !call.name.equals("misclosureIfDropped")) {
                    call.call.on(x);
                }
            }, Probes.BUFFER, Probes.REPORT, Probes.OUTPUT, Probes.SLOTS);
            ChainSurvey x = new ChainSurvey();
            call.call.on(x);
            checks.due("undoableChanges() after " + call.name, x.undoableChanges(), 0);
        }
    }

    /** "The latest 8 changes can be undone, the latest first. A ninth change discards the oldest one." */
    private static void theNinthDiscardsTheOldest() {
        for (Change change : CHANGES) {
            for (int at = 0; at <= 9; at++) {
                ChainSurvey x = begun();
                String[] states = new String[11];
                for (int made = 0; made < 10; made++) {
                    states[made] = Probes.shortState(x);
                    if (made == at) {
                        change.call.on(x);
                    } else {
                        x.setWear(500 + made);
                    }
                    checks.due("undoableChanges()", x.undoableChanges(), Math.min(made + 1, 8));
                }
                for (int left = 7; left >= 0; left--) {
                    checks.due("undo() with " + change.name + " at " + at, x.undo(), left);
                    checks.due("the state then", Probes.shortState(x), states[left + 2]);
                }
                checks.dueThrow("a ninth undo()", Checks.STATE, () -> x.undo());
                checks.due("the state stays", Probes.shortState(x), states[2]);
            }
        }
    }

    /** What comes behind an undone change takes its place; the changes before it stay. */
    private static void anUndoneChangeCannotBeRedone() {
        for (int made = 1; made <= 20; made++) {
            for (int undone = 1; undone <= Math.min(made, 8); undone++) {
                ChainSurvey x = new ChainSurvey();
                for (int wear = 1; wear <= made; wear++) {
                    x.setWear(100 + wear);
                }
                for (int i = 0; i < undone; i++) {
                    x.undo();
                }
                int left = Math.min(made, 8) - undone;
                int wear = made == undone ? 25 : 100 + made - undone;
                checks.due("undoableChanges()", x.undoableChanges(), left);
                checks.due("wear()", x.wear(), wear);
                x.setPace(444);
                checks.due("undoableChanges()", x.undoableChanges(), left + 1);
                checks.due("wear()", x.wear(), wear);
                checks.due("undo()", x.undo(), left);
                checks.due("pace()", x.pace(), 300);
                checks.due("wear()", x.wear(), wear);
                for (int i = left - 1; i >= 0; i--) {
                    checks.due("undo()", x.undo(), i);
                }
                checks.due("wear()", x.wear(), made <= 8 ? 25 : 100 + made - 8);
                checks.dueThrow("undo() of no change", Checks.STATE, () -> x.undo());
            }
        }
    }

    /** "Undo and restore bring back the legs, the wear, the pace and whether the survey is adjusted." */
    private static void undoBringsBackEverything() {
        String first = "survey 11 111;leg ash 15 12 34 dropped 5 rise 67 at 8;bog bay 30 91;leg cob 45 1 2 rise 3 at 40;adjust;";
        String second = "survey 22 222;bog ash 30 5;leg dog 60 9 8 dropped 7 rise 6 at 5;bog cob 15 4;leg egg 0 1 1;raw;";
        String[] scripts = {"wear 12;", "pace 112;", "raw;", "back;", "drop ash;", "found ash;", "back;leg cob 60 1 2 rise 3 at 40;",
            "back;leg cob 45 2 2 rise 3 at 40;", "back;leg cob 45 1 3 rise 3 at 40;", "back;leg cob 45 1 2 dropped 1 rise 3 at 40;",
            "back;leg cob 45 1 2 rise 4 at 40;", "back;leg cob 45 1 2 rise 3 at 41;", "back;leg cub 45 1 2 rise 3 at 40;", "back;bog cob 45 1;",
            "back;back;bog bay 30 92;leg cob 45 1 2 rise 3 at 40;", "back;back;back;", "bog dog 0 1;leg egg 0 0 0;"};
        for (String script : scripts) {
            dueBack(first, script, false);
        }
        dueBack(first, second, true);
        dueBack(second, first, true);
        dueBack(first, HEAD, true);
        dueBack(HEAD, first, true);
    }

    private static void dueBack(String first, String text, boolean isSetup) {
        ChainSurvey x = Checks.loaded(first);
        String before = Checks.stateOf(x);
        x.save(1);
        checks.due("errors of " + text, (isSetup ? Checks.load(x, text) : Checks.play(x, text)) < 0, false);
        String after = Checks.stateOf(x);
        x.undo();
        checks.due("undo() of " + text, Checks.stateOf(x), before);
        if (isSetup) {
            Checks.load(x, text);
        } else {
            Checks.play(x, text);
        }
        checks.due("the same once more", Checks.stateOf(x), after);
        x.restore(1);
        checks.due("restore() behind " + text, Checks.stateOf(x), before);
        x.undo();
        checks.due("undo() of restore()", Checks.stateOf(x), after);
    }

    /** "They do not affect the input buffer, the reported error, the output or the saved states." */
    private static void undoLeavesTheRest() {
        Probes.dueSame(checks, "undo()", Probes::busy, ChainSurvey::undo, Probes.STATE, Probes.CHANGES, Probes.BUFFER);
        for (int text = 0; text < 2; text++) {
            ChainSurvey x = Probes.busy();
            x.truncateInput(0);
            Checks.play(x, "wear 5;".substring(0, 7 - text));
            x.append(0x72617720, 0x20202020, 0x20202020, 0x20202020, 0x2020203b);
            int code = x.errorCode();
            int offset = x.errorOffset();
            x.undo();
            checks.due("errorCode() after undo()", x.errorCode(), code);
            checks.due("errorOffset() after undo()", x.errorOffset(), offset);
            checks.due("the length of the buffer", Probes.lengthOfBuffer(x), 20);
            checks.due("play() of the buffer", x.play(), 1);
        }
        ChainSurvey y = Probes.busy();
        y.truncateInput(0);
        Checks.feed(y, "fen");
        y.undo();
        checks.due("findLeg() after undo()", y.findLeg(), 2);
    }

    private static void restoreLeavesTheRest() {
        Probes.dueSame(checks, "restore(0)", Probes::busy, x -> x.restore(0), Probes.STATE, Probes.CHANGES, Probes.BUFFER);
        ChainSurvey x = Probes.busy();
        x.truncateInput(0);
        Checks.feed(x, "oak");
        x.restore(0);
        checks.due("findLeg() after restore(0)", x.findLeg(), 0);
        checks.due("the length of the buffer", Probes.lengthOfBuffer(x), 3);
    }

    // ---- promises 17 and 18

    private static void slotsAreTwo() {
        ChainSurvey x = new ChainSurvey();
        checks.due("save(1)", x.save(1), 4);
        checks.dueThrow("restore(0), slot 1 being saved", Checks.STATE, () -> x.restore(0));
        x.removeLast();
        checks.due("save(0)", x.save(0), 3);
        x.removeLast();
        checks.due("restore(1)", x.restore(1), 4);
        checks.due("restore(0)", x.restore(0), 3);
        x.removeLast();
        checks.due("save(0) overwrites", x.save(0), 2);
        checks.due("restore(1)", x.restore(1), 4);
        checks.due("restore(0)", x.restore(0), 2);
        checks.due("undoableChanges()", x.undoableChanges(), 7);
        ChainSurvey full = Probes.loaded(20);
        checks.due("save(0) of 20 legs", full.save(0), 20);
        Checks.load(full, HEAD);
        checks.due("restore(0) of 20 legs", full.restore(0), 20);
        checks.due("state", Checks.stateOf(full), Checks.stateOf(Probes.loaded(20)));
    }

    /** A state without legs is a saved state too. */
    private static void aSavedStateWithoutLegs() {
        for (int slot = 0; slot < 2; slot++) {
            ChainSurvey x = Probes.empty();
            checks.due("save of no leg", x.save(slot), 0);
            Checks.load(x, "survey 9 900;bog a 0 1;");
            checks.due("restore of no leg", x.restore(slot), 0);
            checks.due("state", Checks.stateOf(x), Checks.stateOf(Probes.empty()));
        }
    }

    /** "The state stays saved", whatever becomes of the present one, the undone ones and the other slot. */
    private static void theStateStaysSaved() {
        for (Change change : CHANGES) {
            ChainSurvey x = begun();
            x.save(1);
            change.call.on(x);
            checks.due("restore(1) behind " + change.name, x.restore(1), 4);
            change.call.on(x);
            x.save(0);
            x.restore(1);
            checks.due("the state behind " + change.name, Checks.stateOf(x), Checks.stateOf(begun()));
            x.undo();
            x.undo();
            x.restore(1);
            checks.due("the state behind undo()", Checks.stateOf(x), Checks.stateOf(begun()));
        }
    }

    /** "An object is used for at most 512 calls": so many it must bear. */
    private static void fiveHundredCalls() {
        ChainSurvey x = new ChainSurvey();
        for (int call = 0; call < 510; call++) {
            x.setWear(call % 1000);
        }
        checks.due("undoableChanges() at the 511th call", x.undoableChanges(), 8);
        checks.due("undo() at the 512th call", x.undo(), 7);
        ChainSurvey full = Probes.loaded(20);
        for (int call = 0; call < 400; call++) {
            checks.due("bestPace()", full.bestPace(), 999);
        }
    }
}
