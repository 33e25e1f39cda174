/**
 * "A method that throws an exception changes nothing. If several exceptions apply, the one that is
 * listed first is thrown." Each call that the document refuses, and each that only answers.
 */
public final class RefusedTest {
    private static final Checks checks = new Checks();
    private static final int MIN = Integer.MIN_VALUE;
    private static final int MAX = Integer.MAX_VALUE;
    /** The greatest and the least multiple of 15 in an int. */
    private static final int FAR_BEARING = 2147483640;

    private interface NumberCall {
        void on(ChainSurvey x, int number);
    }

    private record Named(String name, NumberCall call) {
    }

    private static final Named[] LEG_CALLS = {
        new Named("dropPin", ChainSurvey::dropPin), new Named("findPin", ChainSurvey::findPin), new Named("bearing", ChainSurvey::bearing),
        new Named("pins", ChainSurvey::pins), new Named("droppedPins", ChainSurvey::droppedPins), new Named("readLength", ChainSurvey::readLength),
        new Named("slopeLength", ChainSurvey::slopeLength), new Named("horizontalLength", ChainSurvey::horizontalLength),
        new Named("eastStep", ChainSurvey::eastStep), new Named("northStep", ChainSurvey::northStep), new Named("tallies", ChainSurvey::tallies),
        new Named("isBog", ChainSurvey::isBog), new Named("misclosureIfDropped", ChainSurvey::misclosureIfDropped),
        new Named("nameByte 0", (x, leg) -> x.nameByte(leg, 0)), new Named("nameByte -1", (x, leg) -> x.nameByte(leg, -1)),
        new Named("nameByte 6", (x, leg) -> x.nameByte(leg, 6)),
    };

    private static final Named[] STATION_CALLS = {
        new Named("rawEast", ChainSurvey::rawEast), new Named("rawNorth", ChainSurvey::rawNorth), new Named("east", ChainSurvey::east),
        new Named("north", ChainSurvey::north), new Named("run", ChainSurvey::run), new Named("distanceFromStart", ChainSurvey::distanceFromStart),
    };

    private static final Probes.Call[] QUESTIONS = {
        ChainSurvey::errorCode, ChainSurvey::errorOffset, ChainSurvey::legCount, ChainSurvey::stationCount, ChainSurvey::wear, ChainSurvey::pace,
        ChainSurvey::undoableChanges, ChainSurvey::isAdjusted, ChainSurvey::findLeg, ChainSurvey::perimeter, ChainSurvey::closingEast,
        ChainSurvey::closingNorth, ChainSurvey::misclosure, ChainSurvey::precision, ChainSurvey::width, ChainSurvey::height,
        ChainSurvey::farthestStation, ChainSurvey::longestLeg, ChainSurvey::bogLength, ChainSurvey::area, ChainSurvey::suspectLeg,
        ChainSurvey::bestPace, ChainSurvey::inconsistencies, ChainSurvey::meanLeg, ChainSurvey::bogShare, x -> x.outputByte(0), x -> x.outputByte(-1),
        x -> x.outputByte(MAX),
    };

    public static void main(String[] args) {
        buffers();
        newLegs();
        pinsOfLegs();
        wearPaceSlots();
        nothingToTakeBack();
        legsThatDoNotExist();
        stationsThatDoNotExist();
        questionsChangeNothing();
        checks.finish();
    }

    private static void refused(String what, Class<? extends RuntimeException> due, Probes.Making making, Probes.Call call) {
        Probes.dueRefused(checks, what, due, making, call);
    }

    /** Promise 2: "NONE, with no change, if it would exceed 900"; promise 3: "0 to the current length". */
    private static void buffers() {
        for (int spaces = 869; spaces <= 893; spaces++) {
            int before = spaces;
            Probes.Making making = () -> filled(before);
            checks.due("append to " + (before + 7), making.make().append(1, 2, 3, 4, 5), before + 7 <= 880 ? before + 27 : -1);
            if (before + 7 > 880) {
                Probes.dueSame(checks, "append to " + (before + 7), making, x -> x.append(1, 2, 3, 4, 5));
            }
        }
        int length = Probes.lengthOfBuffer(Probes.busy());
        for (int wrong : new int[] {-1, length + 1, 899, 900, 901, MIN, MAX}) {
            refused("truncateInput(" + wrong + ")", Checks.ARGUMENT, Probes::busy, x -> x.truncateInput(wrong));
        }
        for (int wrong : new int[] {-1, 901, MIN, MAX}) {
            refused("truncateInput(" + wrong + ") of 900", Checks.ARGUMENT, Probes::full, x -> x.truncateInput(wrong));
        }
        for (int wrong : new int[] {-1, 1, 20, 900}) {
            refused("truncateInput(" + wrong + ") of 0", Checks.ARGUMENT, Probes::empty, x -> x.truncateInput(wrong));
        }
    }

    private static ChainSurvey filled(int spaces) {
        ChainSurvey x = new ChainSurvey();
        Checks.feed(x, " ".repeat(spaces) + "wear 7;");
        return x;
    }

    /** Promises 8 and 9: a parameter out of range, 20 legs, a taken name; the range is looked at first. */
    private static void newLegs() {
        int[][] legs = {{-15, 1, 1, 1, 1}, {-1, 1, 1, 1, 1}, {1, 1, 1, 1, 1}, {14, 1, 1, 1, 1}, {16, 1, 1, 1, 1}, {344, 1, 1, 1, 1}, {346, 1, 1, 1, 1},
            {360, 1, 1, 1, 1}, {FAR_BEARING, 1, 1, 1, 1}, {-FAR_BEARING, 1, 1, 1, 1}, {MIN, 1, 1, 1, 1}, {MAX, 1, 1, 1, 1},
            {0, -1, 1, 1, 1}, {0, 100, 1, 1, 1}, {0, MIN, 1, 1, 1}, {0, MAX, 1, 1, 1}, {0, 1, -1, 1, 1}, {0, 1, 100, 1, 1}, {0, 1, MIN, 1, 1}, {0, 1, MAX, 1, 1},
            {0, 1, 1, -1, 1}, {0, 1, 1, 10000, 1}, {0, 1, 1, MIN, 1}, {0, 1, 1, MAX, 1}, {0, 1, 1, 1, -1}, {0, 1, 1, 1, 51}, {0, 1, 1, 1, MIN}, {0, 1, 1, 1, MAX},
            {-1, -1, -1, -1, -1}, {360, 100, 100, 10000, 51}};
        int[][] bogs = {{-15, 1}, {-1, 1}, {1, 1}, {14, 1}, {346, 1}, {360, 1}, {FAR_BEARING, 1}, {-FAR_BEARING, 1}, {MIN, 1}, {MAX, 1},
            {0, 0}, {0, -1}, {0, 1000}, {0, MIN}, {0, MAX}, {-15, 0}};
        // Every one of these has room for a leg, a taken name, or 20 legs.
        Probes.Making[] makings = {ChainSurvey::new, Probes::busy, Probes::full};
        for (Probes.Making making : makings) {
            for (int[] w : legs) {
                refused("addLeg" + java.util.Arrays.toString(w), Checks.ARGUMENT, making, x -> x.addLeg(w[0], w[1], w[2], w[3], w[4]));
            }
            for (int[] w : bogs) {
                refused("addBog" + java.util.Arrays.toString(w), Checks.ARGUMENT, making, x -> x.addBog(w[0], w[1]));
            }
        }
        refused("addLeg, the name is taken", Checks.STATE, Probes::busy, x -> x.addLeg(0, 1, 1, 1, 1));
        refused("addBog, the name is taken", Checks.STATE, Probes::busy, x -> x.addBog(0, 1));
        refused("addLeg to 20 legs", Checks.STATE, Probes::full, x -> x.addLeg(0, 1, 1, 1, 1));
        refused("addBog to 20 legs", Checks.STATE, Probes::full, x -> x.addBog(0, 1));
    }

    /** Promises 10 and 11: a bog leg, 9 dropped pins, no dropped pins. */
    private static void pinsOfLegs() {
        refused("dropPin of 9", Checks.STATE, Probes::busy, x -> x.dropPin(0));
        refused("dropPin of a bog leg", Checks.STATE, Probes::busy, x -> x.dropPin(2));
        refused("findPin of 0", Checks.STATE, Probes::busy, x -> x.findPin(1));
        refused("findPin of a bog leg", Checks.STATE, Probes::busy, x -> x.findPin(2));
    }

    /** Promises 13, 14, 17 and 18. */
    private static void wearPaceSlots() {
        for (int wrong : new int[] {-1, 1000, MIN, MAX}) {
            refused("setWear(" + wrong + ")", Checks.ARGUMENT, Probes::busy, x -> x.setWear(wrong));
        }
        for (int wrong : new int[] {99, 1000, 0, -1, -100, MIN, MAX}) {
            refused("setPace(" + wrong + ")", Checks.ARGUMENT, Probes::busy, x -> x.setPace(wrong));
        }
        for (int wrong : new int[] {-1, 2, MIN, MAX}) {
            refused("save(" + wrong + ")", Checks.ARGUMENT, Probes::busy, x -> x.save(wrong));
            refused("restore(" + wrong + ")", Checks.ARGUMENT, Probes::busy, x -> x.restore(wrong));
            refused("restore(" + wrong + "), nothing being saved", Checks.ARGUMENT, Probes::empty, x -> x.restore(wrong));
        }
        refused("restore(1), slot 0 being saved", Checks.STATE, Probes::busy, x -> x.restore(1));
        refused("restore(0) of a new object", Checks.STATE, ChainSurvey::new, x -> x.restore(0));
        refused("restore(1) of a new object", Checks.STATE, ChainSurvey::new, x -> x.restore(1));
    }

    /** Promises 12 and 16: "if there is no leg", "if there is no change to undo". */
    private static void nothingToTakeBack() {
        refused("removeLast of no leg", Checks.STATE, Probes::empty, ChainSurvey::removeLast);
        refused("undo of a new object", Checks.STATE, ChainSurvey::new, ChainSurvey::undo);
        Probes.Making undone = () -> {
            ChainSurvey x = Probes.busy();
            while (x.undoableChanges() > 0) {
                x.undo();
            }
            return x;
        };
        refused("undo of a ninth change", Checks.STATE, undone, ChainSurvey::undo);
    }

    /** "If the leg does not exist": beside 0, 1, 4 and 20 legs, also where a leg was removed. */
    private static void legsThatDoNotExist() {
        Probes.Making removed = () -> {
            ChainSurvey x = Probes.busy();
            x.removeLast();
            return x;
        };
        for (Named named : LEG_CALLS) {
            for (int wrong : new int[] {-1, 4, 20, MIN, MAX}) {
                refused(named.name + ", leg " + wrong + " of 4", Checks.INDEX, Probes::busy, x -> named.call.on(x, wrong));
            }
            refused(named.name + ", a removed leg", Checks.INDEX, removed, x -> named.call.on(x, 3));
            refused(named.name + ", leg 0 of 0", Checks.INDEX, Probes::empty, x -> named.call.on(x, 0));
            refused(named.name + ", leg -1 of 0", Checks.INDEX, Probes::empty, x -> named.call.on(x, -1));
            refused(named.name + ", leg 1 of 1", Checks.INDEX, () -> Probes.loaded(1), x -> named.call.on(x, 1));
            ChainSurvey twenty = Probes.loaded(20);
            checks.dueThrow(named.name + ", leg 20 of 20", Checks.INDEX, () -> named.call.on(twenty, 20));
            checks.dueThrow(named.name + ", leg -1 of 20", Checks.INDEX, () -> named.call.on(twenty, -1));
            if (!named.name.equals("findPin")) {
                named.call.on(twenty, 19);
                named.call.on(twenty, 0);
            }
        }
    }

    private static void stationsThatDoNotExist() {
        for (Named named : STATION_CALLS) {
            for (int wrong : new int[] {-1, 5, 21, MIN, MAX}) {
                refused(named.name + ", station " + wrong + " of 5", Checks.INDEX, Probes::busy, x -> named.call.on(x, wrong));
            }
            refused(named.name + ", station 1 of 1", Checks.INDEX, Probes::empty, x -> named.call.on(x, 1));
            refused(named.name + ", station -1 of 1", Checks.INDEX, Probes::empty, x -> named.call.on(x, -1));
            ChainSurvey twenty = Probes.loaded(20);
            checks.dueThrow(named.name + ", station 21 of 21", Checks.INDEX, () -> named.call.on(twenty, 21));
            checks.dueThrow(named.name + ", station -1 of 21", Checks.INDEX, () -> named.call.on(twenty, -1));
            named.call.on(twenty, 20);
            named.call.on(Probes.empty(), 0);
        }
    }

    /** "Forecasts; nothing changes", and so it is with every other question; writeStations() changes the output alone. */
    private static void questionsChangeNothing() {
        for (int i = 0; i < QUESTIONS.length; i++) {
            Probes.dueSame(checks, "question " + i, Probes::busy, QUESTIONS[i]);
            Probes.dueSame(checks, "question " + i + " of an empty survey", Probes::empty, QUESTIONS[i]);
        }
        for (Named named : LEG_CALLS) {
            if (!named.name.endsWith("Pin")) {
                Probes.dueSame(checks, named.name, Probes::busy, x -> named.call.on(x, 1));
                Probes.dueSame(checks, named.name, Probes::busy, x -> named.call.on(x, 2));
            }
        }
        for (Named named : STATION_CALLS) {
            Probes.dueSame(checks, named.name, Probes::busy, x -> named.call.on(x, 4));
        }
        Probes.dueSame(checks, "writeStations()", Probes::busy, ChainSurvey::writeStations, Probes.OUTPUT);
        Probes.dueSame(checks, "save(0)", Probes::busy, x -> x.save(0), Probes.SLOTS);
        Probes.dueSame(checks, "save(1)", Probes::busy, x -> x.save(1), Probes.SLOTS);
    }
}
