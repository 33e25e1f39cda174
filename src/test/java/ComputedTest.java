/** Promises 19 to 35 (legs), 37 to 42 (stations), 43 to 53 (closing), 54 to 56 (forecasts), 57 to 59 and 60 to 61. */
public final class ComputedTest {
    private static final Checks checks = new Checks();
    private static final String CROOKED = "survey 137 271; leg a 15 7 33 rise 123 at 0; leg b 105 2 99 dropped 3 rise 450 at 50;"
            + " bog c 210 417; leg d 285 1 7 at 3; bog e 330 3; leg f 195 0 5 rise 6;";

    public static void main(String[] args) {
        crookedLegs();
        crookedStations();
        crookedStationsAdjusted();
        lengthsAtTheEdges();
        stepsOfEveryBearing();
        talliesAndNames();
        wrongLegs();
        wrongStations();
        noLegs();
        perimeterZero();
        farthestAndLongest();
        areas();
        theLongestSurvey();
        forecasts();
        bestPaces();
        averages();
        outputs();
        checks.finish();
    }

    private static ChainSurvey crooked(boolean isAdjusted) {
        return Checks.loaded(CROOKED + (isAdjusted ? "adjust;" : ""));
    }

    private static void crookedLegs() {
        ChainSurvey x = crooked(false);
        checks.due("legCount()", x.legCount(), 6);
        checks.due("stationCount()", x.stationCount(), 7);
        checks.due("wear()", x.wear(), 137);
        checks.due("pace()", x.pace(), 271);
        checks.due("undoableChanges()", x.undoableChanges(), 1);
        checks.due("isAdjusted()", x.isAdjusted(), false);
        int[] bearings = {15, 105, 210, 285, 330, 195};
        int[] pins = {7, 2, 0, 1, 0, 0};
        int[] dropped = {0, 3, 0, 0, 0, 0};
        int[] reads = {73300, 59900, 113007, 10700, 813, 500};
        int[] slopes = {74291, 60745, 113007, 10845, 813, 506};
        int[] horizontals = {73265, 40803, 113007, 10845, 813, 0};
        int[] easts = {18960, 39411, -56503, -10475, -406, 0};
        int[] norths = {70766, -10559, -97864, 2806, 704, 0};
        boolean[] bogs = {false, false, true, false, true, false};
        for (int leg = 0; leg < 6; leg++) {
            checks.due("bearing(" + leg + ")", x.bearing(leg), bearings[leg]);
            checks.due("pins(" + leg + ")", x.pins(leg), pins[leg]);
            checks.due("droppedPins(" + leg + ")", x.droppedPins(leg), dropped[leg]);
            checks.due("readLength(" + leg + ")", x.readLength(leg), reads[leg]);
            checks.due("slopeLength(" + leg + ")", x.slopeLength(leg), slopes[leg]);
            checks.due("horizontalLength(" + leg + ")", x.horizontalLength(leg), horizontals[leg]);
            checks.due("eastStep(" + leg + ")", x.eastStep(leg), easts[leg]);
            checks.due("northStep(" + leg + ")", x.northStep(leg), norths[leg]);
            checks.due("isBog(" + leg + ")", x.isBog(leg), bogs[leg]);
        }
    }

    private static void dueRows(ChainSurvey x, int[] easts, int[] norths, int[] distances) {
        for (int station = 0; station < easts.length; station++) {
            checks.due("east(" + station + ")", x.east(station), easts[station]);
            checks.due("north(" + station + ")", x.north(station), norths[station]);
            checks.due("distanceFromStart(" + station + ")", x.distanceFromStart(station), distances[station]);
        }
    }

    private static final int[] RAW_EASTS = {0, 18960, 58371, 1868, -8607, -9013, -9013};
    private static final int[] RAW_NORTHS = {0, 70766, 60207, -37657, -34851, -34147, -34147};

    private static void dueSame(ChainSurvey x) {
        int[] runs = {0, 73265, 114068, 227075, 237920, 238733, 238733};
        for (int station = 0; station < 7; station++) {
            checks.due("rawEast(" + station + ")", x.rawEast(station), RAW_EASTS[station]);
            checks.due("rawNorth(" + station + ")", x.rawNorth(station), RAW_NORTHS[station]);
            checks.due("run(" + station + ")", x.run(station), runs[station]);
        }
        checks.due("perimeter()", x.perimeter(), 238733);
        checks.due("closingEast()", x.closingEast(), -9013);
        checks.due("closingNorth()", x.closingNorth(), -34147);
        checks.due("misclosure()", x.misclosure(), 35316);
        checks.due("precision()", x.precision(), 6);
        checks.due("longestLeg()", x.longestLeg(), 2);
        checks.due("bogLength()", x.bogLength(), 113820);
        checks.due("inconsistencies()", x.inconsistencies(), 0);
        checks.due("farthestStation()", x.farthestStation(), 2);
    }

    private static void crookedStations() {
        ChainSurvey x = crooked(false);
        dueSame(x);
        dueRows(x, RAW_EASTS, RAW_NORTHS, new int[] {0, 73261, 83857, 37703, 35898, 35316, 35316});
        checks.due("width()", x.width(), 67384);
        checks.due("height()", x.height(), 108423);
        checks.due("area()", x.area(), 2854562595L);
        checks.due("writeStations()", x.writeStations(), 78);
        checks.due("output", Checks.output(x), "0,0 18960,70766 58371,60207 1868,-37657 -8607,-34851 -9013,-34147 -9013,-34147");
    }

    private static void crookedStationsAdjusted() {
        ChainSurvey x = crooked(true);
        dueSame(x);
        dueRows(x, new int[] {0, 21726, 62677, 10440, 375, 0, 0}, new int[] {0, 81245, 76522, -5178, -821, 0, 0},
                new int[] {0, 84099, 98914, 11653, 902, 0, 0});
        checks.due("width()", x.width(), 62677);
        checks.due("height()", x.height(), 86423);
        checks.due("area()", x.area(), 2279868284L);
        checks.due("writeStations()", x.writeStations(), 56);
        checks.due("output", Checks.output(x), "0,0 21726,81245 62677,76522 10440,-5178 375,-821 0,0 0,0");
    }

    private static void dueLengths(String setup, int read, int slope, int horizontal) {
        ChainSurvey x = Checks.loaded(setup);
        checks.due(setup + ": readLength(0)", x.readLength(0), read);
        checks.due(setup + ": slopeLength(0)", x.slopeLength(0), slope);
        checks.due(setup + ": horizontalLength(0)", x.horizontalLength(0), horizontal);
    }

    private static void lengthsAtTheEdges() {
        dueLengths("survey 0 100;leg a 0 0 0;", 0, 0, 0);
        dueLengths("survey 0 100;leg a 0 0 0 rise 1;", 0, 0, 0);
        dueLengths("survey 0 100;leg a 0 0 1 rise 1;", 100, 100, 0);
        dueLengths("survey 0 100;leg a 0 0 1 rise 2;", 100, 100, 0);
        dueLengths("survey 0 100;leg a 0 0 5 rise 4;", 500, 500, 300);
        dueLengths("survey 0 100;leg a 0 0 2 rise 1;", 200, 200, 173);
        // 99 of wear makes 99 / 100 of a unit on a link, which is rounded down; 100 makes one unit.
        dueLengths("survey 99 100;leg a 0 0 1;", 100, 100, 100);
        dueLengths("survey 100 100;leg a 0 0 1;", 100, 101, 101);
        dueLengths("survey 999 100;leg a 0 0 1;", 100, 109, 109);
        // Heat: 83300 * 12 is less than a million, 83400 * 12 is more; the cold takes away as much.
        dueLengths("survey 0 100;leg a 0 8 33 at 16;", 83300, 83300, 83300);
        dueLengths("survey 0 100;leg a 0 8 34 at 16;", 83400, 83401, 83401);
        dueLengths("survey 0 100;leg a 0 8 33 at 14;", 83300, 83300, 83300);
        dueLengths("survey 0 100;leg a 0 8 34 at 14;", 83400, 83399, 83399);
        dueLengths("survey 0 100;leg a 0 99 99 dropped 9 at 0;", 1089900, 1089704, 1089704);
        // 25000 * 10 * 12 is just 3 times a million.
        dueLengths("survey 0 100;leg a 0 2 50 at 25;", 25000, 25003, 25003);
        dueLengths("survey 0 100;leg a 0 2 50 at 5;", 25000, 24997, 24997);
        // The heat is taken of the length with the wear: 83300 * 1.0013 = 83408.
        dueLengths("survey 13 100;leg a 0 8 33 at 16;", 83300, 83409, 83409);
        // Neither wear nor heat changes a bog leg.
        dueLengths("survey 999 123;bog a 0 999;", 122877, 122877, 122877);
        dueLengths("survey 0 100;leg a 0 99 99 rise 9999;", 999900, 999900, 0);
        dueLengths("survey 1 100;leg a 0 99 99 rise 9999;", 999900, 999999, 14070);
    }

    private static void stepsOfEveryBearing() {
        int[] cosines = {10000, 9659, 8660, 7071, 5000, 2588, 0, -2588, -5000, -7071, -8660, -9659,
            -10000, -9659, -8660, -7071, -5000, -2588, 0, 2588, 5000, 7071, 8660, 9659};
        int[] scaled = {9900, 9562, 8573, 7000, 4950, 2562, 0, -2562, -4950, -7000, -8573, -9562,
            -9900, -9562, -8573, -7000, -4950, -2562, 0, 2562, 4950, 7000, 8573, 9562};
        for (int i = 0; i < 24; i++) {
            ChainSurvey x = Checks.loaded("survey 0 100;leg a " + i * 15 + " 1 0;leg b " + i * 15 + " 0 99;");
            int east = Math.floorMod(6 - i, 24);
            checks.due("northStep at " + i * 15, x.northStep(0), cosines[i]);
            checks.due("eastStep at " + i * 15, x.eastStep(0), cosines[east]);
            checks.due("northStep of 99 links at " + i * 15, x.northStep(1), scaled[i]);
            checks.due("eastStep of 99 links at " + i * 15, x.eastStep(1), scaled[east]);
        }
    }

    private static void talliesAndNames() {
        int[][] pins = {{0, 0, 0}, {9, 0, 0}, {9, 1, 1}, {10, 0, 1}, {1, 9, 1}, {19, 0, 1}, {12, 8, 2}, {99, 0, 9}, {99, 9, 10}};
        for (int[] row : pins) {
            ChainSurvey x = Checks.loaded("survey 0 100;leg a 0 " + row[0] + " 99 dropped " + row[1] + ";");
            checks.due("tallies of " + row[0] + " and " + row[1], x.tallies(0), row[2]);
        }
        ChainSurvey x = Checks.loaded("survey 0 999;bog zebra 0 999;leg abcxyz 0 0 0;leg a 0 0 0;");
        checks.due("tallies of a bog leg", x.tallies(0), 0);
        checks.due("nameByte(0, 0)", x.nameByte(0, 0), 'z');
        checks.due("nameByte(0, 4)", x.nameByte(0, 4), 'a');
        checks.due("nameByte(0, 5)", x.nameByte(0, 5), -1);
        checks.due("nameByte(0, -1)", x.nameByte(0, -1), -1);
        checks.due("nameByte(0, MIN)", x.nameByte(0, Integer.MIN_VALUE), -1);
        checks.due("nameByte(0, MAX)", x.nameByte(0, Integer.MAX_VALUE), -1);
        checks.due("name of 1", Checks.nameOf(x, 1), "abcxyz");
        checks.due("nameByte(1, 5)", x.nameByte(1, 5), 'z');
        checks.due("nameByte(1, 6)", x.nameByte(1, 6), -1);
        checks.due("nameByte(2, 0)", x.nameByte(2, 0), 'a');
        checks.due("nameByte(2, 1)", x.nameByte(2, 1), -1);
        checks.dueThrow("nameByte(3, 0)", Checks.INDEX, () -> x.nameByte(3, 0));
        checks.dueThrow("nameByte(-1, -1)", Checks.INDEX, () -> x.nameByte(-1, -1));
    }

    private static void wrongLegs() {
        ChainSurvey x = crooked(true);
        for (int leg : new int[] {-1, 6, 20, Integer.MIN_VALUE, Integer.MAX_VALUE}) {
            checks.dueThrow("bearing(" + leg + ")", Checks.INDEX, () -> x.bearing(leg));
            checks.dueThrow("pins(" + leg + ")", Checks.INDEX, () -> x.pins(leg));
            checks.dueThrow("droppedPins(" + leg + ")", Checks.INDEX, () -> x.droppedPins(leg));
            checks.dueThrow("readLength(" + leg + ")", Checks.INDEX, () -> x.readLength(leg));
            checks.dueThrow("slopeLength(" + leg + ")", Checks.INDEX, () -> x.slopeLength(leg));
            checks.dueThrow("horizontalLength(" + leg + ")", Checks.INDEX, () -> x.horizontalLength(leg));
            checks.dueThrow("eastStep(" + leg + ")", Checks.INDEX, () -> x.eastStep(leg));
            checks.dueThrow("northStep(" + leg + ")", Checks.INDEX, () -> x.northStep(leg));
            checks.dueThrow("tallies(" + leg + ")", Checks.INDEX, () -> x.tallies(leg));
            checks.dueThrow("isBog(" + leg + ")", Checks.INDEX, () -> x.isBog(leg));
            checks.dueThrow("misclosureIfDropped(" + leg + ")", Checks.INDEX, () -> x.misclosureIfDropped(leg));
        }
    }

    private static void wrongStations() {
        ChainSurvey x = crooked(true);
        for (int station : new int[] {-1, 7, 21, Integer.MIN_VALUE, Integer.MAX_VALUE}) {
            checks.dueThrow("rawEast(" + station + ")", Checks.INDEX, () -> x.rawEast(station));
            checks.dueThrow("rawNorth(" + station + ")", Checks.INDEX, () -> x.rawNorth(station));
            checks.dueThrow("east(" + station + ")", Checks.INDEX, () -> x.east(station));
            checks.dueThrow("north(" + station + ")", Checks.INDEX, () -> x.north(station));
            checks.dueThrow("run(" + station + ")", Checks.INDEX, () -> x.run(station));
            checks.dueThrow("distanceFromStart(" + station + ")", Checks.INDEX, () -> x.distanceFromStart(station));
        }
    }

    private static void noLegs() {
        ChainSurvey x = Checks.loaded("survey 5 100;adjust;");
        checks.due("legCount()", x.legCount(), 0);
        checks.due("stationCount()", x.stationCount(), 1);
        dueRows(x, new int[] {0}, new int[] {0}, new int[] {0});
        checks.due("rawEast(0)", x.rawEast(0), 0);
        checks.due("rawNorth(0)", x.rawNorth(0), 0);
        checks.due("run(0)", x.run(0), 0);
        checks.dueThrow("east(1)", Checks.INDEX, () -> x.east(1));
        checks.dueThrow("bearing(0)", Checks.INDEX, () -> x.bearing(0));
        dueNothing(x);
        checks.due("longestLeg()", x.longestLeg(), -1);
        checks.due("bestPace()", x.bestPace(), -1);
        checks.due("writeStations()", x.writeStations(), 3);
        checks.due("output", Checks.output(x), "0,0");
    }

    private static void dueNothing(ChainSurvey x) {
        checks.due("perimeter()", x.perimeter(), 0);
        checks.due("closingEast()", x.closingEast(), 0);
        checks.due("closingNorth()", x.closingNorth(), 0);
        checks.due("misclosure()", x.misclosure(), 0);
        checks.due("precision()", x.precision(), -1);
        checks.due("width()", x.width(), 0);
        checks.due("height()", x.height(), 0);
        checks.due("farthestStation()", x.farthestStation(), 0);
        checks.due("bogLength()", x.bogLength(), 0);
        checks.due("area()", x.area(), 0);
        checks.due("suspectLeg()", x.suspectLeg(), -1);
        checks.due("inconsistencies()", x.inconsistencies(), 0);
        checks.dueDouble("meanLeg()", x.meanLeg(), 0.0);
        checks.dueFloat("bogShare()", x.bogShare(), 0.0f);
    }

    private static void perimeterZero() {
        ChainSurvey x = Checks.loaded("survey 999 100;leg a 45 0 0;leg b 90 0 5 rise 6;adjust;");
        dueRows(x, new int[3], new int[3], new int[3]);
        dueNothing(x);
        checks.due("longestLeg()", x.longestLeg(), 0);
        checks.due("bestPace()", x.bestPace(), -1);
        checks.due("writeStations()", x.writeStations(), 11);
    }

    private static void farthestAndLongest() {
        checks.due("farthest, a tie", Checks.loaded("survey 0 100;leg a 0 1 0;leg b 90 0 0;leg c 180 2 0;").farthestStation(), 1);
        checks.due("farthest, the last", Checks.loaded("survey 0 100;leg a 0 1 0;leg b 0 1 0;").farthestStation(), 2);
        // 7071 * 7071 * 2 = 99998082, whose root is 9999, less than the 10000 of station 1.
        checks.due("farthest, a near tie", Checks.loaded("survey 0 100;leg a 0 1 0;leg b 180 1 0;leg c 45 1 0;").farthestStation(), 1);
        // 5000, 8660 has the root 9999 like 7071, 7071; their squares differ.
        checks.due("farthest, equal roots", Checks.loaded("survey 0 100;leg a 30 1 0;leg b 210 1 0;leg c 45 1 0;").farthestStation(), 1);
        // Rounding leaves the middle of a straight line at 1, 1.
        checks.due("farthest, a distance of 1", Checks.loaded("survey 0 100;bog a 15 2;bog b 15 1;adjust;").farthestStation(), 1);
        checks.due("longest, a tie", Checks.loaded("survey 0 100;leg a 0 0 5;leg b 0 1 0;bog c 0 100;").longestLeg(), 1);
        checks.due("longest is horizontal", Checks.loaded("survey 0 100;leg a 0 1 0 rise 80;bog b 0 61;").longestLeg(), 1);
        checks.due("longest, the last", Checks.loaded("survey 0 100;leg a 0 0 5;bog b 0 6;").longestLeg(), 1);
    }

    private static void areas() {
        String[] square = {"leg a 0 1 0;leg b 90 1 0;leg c 180 1 0;leg d 270 1 0;", "leg a 90 1 0;leg b 0 1 0;leg c 270 1 0;leg d 180 1 0;",
            "leg a 0 1 0;leg b 90 1 0;leg c 180 1 0;", "leg a 270 1 0;leg b 180 1 0;leg c 90 1 0;"};
        for (String legs : square) {
            checks.due("area of " + legs, Checks.loaded("survey 0 100;" + legs).area(), 100000000L);
        }
        checks.due("area of a half square", Checks.loaded("survey 0 100;leg a 0 1 0;leg b 90 1 0;").area(), 50000000L);
        checks.due("an odd sum", Checks.loaded("survey 0 101;bog a 90 1;bog b 0 1;").area(), 5100);
        checks.due("an odd negative sum", Checks.loaded("survey 0 101;bog a 0 1;bog b 90 1;").area(), 5100);
        checks.due("there and back", Checks.loaded("survey 0 100;leg a 30 7 9;leg b 210 7 9;").area(), 0);
        checks.due("a crossed square", Checks.loaded("survey 0 100;leg a 45 2 0;leg b 180 1 0;leg c 315 2 0;leg d 180 1 0;").area(), 58576164L);
    }

    private static void theLongestSurvey() {
        StringBuilder text = new StringBuilder("survey 999 999;");
        for (int leg = 0; leg < 20; leg++) {
            text.append("leg ").append((char) ('a' + leg)).append(leg < 10 ? " 225" : " 315").append(" 99 99 dropped 9 at 50;");
        }
        ChainSurvey x = Checks.loaded(text.toString());
        checks.due("legCount()", x.legCount(), 20);
        checks.due("slopeLength(0)", x.slopeLength(0), 1199284);
        checks.due("perimeter()", x.perimeter(), 23985680);
        checks.due("closingEast()", x.closingEast(), -16960260);
        checks.due("closingNorth()", x.closingNorth(), 0);
        checks.due("misclosure()", x.misclosure(), 16960260);
        checks.due("precision()", x.precision(), 1);
        checks.due("distanceFromStart(19)", x.distanceFromStart(19), 16134547);
        checks.due("area()", x.area(), 71912604816900L);
        checks.due("suspectLeg()", x.suspectLeg(), -1);
        checks.due("misclosureIfDropped(0)", x.misclosureIfDropped(0), -1);
        checks.due("writeStations()", x.writeStations(), 362);
        checks.due("outputByte(361)", x.outputByte(361), '0');
        checks.due("outputByte(362)", x.outputByte(362), -1);
        x.setAdjusted(true);
        checks.due("east(20)", x.east(20), 0);
        checks.due("east(10)", x.east(10), 0);
        checks.due("north(10)", x.north(10), -8480130);
    }

    private static void forecasts() {
        ChainSurvey x = crooked(true);
        String before = Checks.stateOf(x);
        int[] due = {25056, 38026, -1, 36705, -1, 45941};
        for (int leg = 0; leg < 6; leg++) {
            checks.due("misclosureIfDropped(" + leg + ")", x.misclosureIfDropped(leg), due[leg]);
        }
        checks.due("suspectLeg()", x.suspectLeg(), 0);
        checks.due("bestPace()", x.bestPace(), 189);
        checks.due("state", Checks.stateOf(x), before);
        checks.due("undoableChanges()", x.undoableChanges(), 1);
        x.setPace(189);
        int least = x.misclosure();
        x.setPace(188);
        checks.note(x.misclosure() > least, "pace 188 is as good as 189");
        x.setPace(190);
        checks.note(x.misclosure() >= least, "pace 190 is better than 189");
        checks.due("bestPace() whatever the pace", x.bestPace(), 189);

        ChainSurvey nine = Checks.loaded("survey 0 100;leg a 0 1 0 dropped 9;leg b 180 0 5 dropped 8;");
        checks.due("misclosureIfDropped with 9", nine.misclosureIfDropped(0), -1);
        checks.due("misclosureIfDropped with 8", nine.misclosureIfDropped(1), 9500);
        checks.due("suspectLeg()", nine.suspectLeg(), 1);
        checks.due("a tie", Checks.loaded("survey 0 100;leg z 0 0 0;leg a 180 1 0;leg b 180 1 0;leg c 0 3 0;").suspectLeg(), 1);
        checks.due("not less than it is", Checks.loaded("survey 0 100;leg a 0 0 0;leg b 180 0 50;").suspectLeg(), -1);
        checks.due("a little less", Checks.loaded("survey 0 100;leg a 0 0 0;leg b 180 0 51;").suspectLeg(), 0);
        checks.due("the best of two", Checks.loaded("survey 0 100;leg a 15 0 0;leg b 0 0 0;leg c 180 1 0;").suspectLeg(), 1);
        checks.due("closed", Checks.loaded("survey 0 100;leg a 0 1 0;leg b 180 1 0;").suspectLeg(), -1);
        checks.due("the bog alone", Checks.loaded("survey 0 100;bog a 0 1;").suspectLeg(), -1);
    }

    private static void bestPaces() {
        String[] setups = {"bog a 0 5;", "bog a 0 5;bog b 180 5;", "leg a 0 99 0;bog b 180 1;", "leg a 0 3 0;bog b 180 100;",
            "leg a 0 0 99;bog b 180 99;", "leg a 0 9 99;bog b 180 100;", "leg a 0 1 0;bog b 90 1;", "leg a 0 1 0;", "leg a 0 0 0 rise 9;bog b 15 1;"};
        int[] due = {100, 100, 999, 300, 100, 999, 100, -1, 100};
        for (int i = 0; i < setups.length; i++) {
            checks.due("bestPace of " + setups[i], Checks.loaded("survey 0 500;" + setups[i]).bestPace(), due[i]);
        }
        // 100 of wear makes 101 units of a link.
        checks.due("bestPace just above the least", Checks.loaded("survey 100 500;leg a 0 0 1;bog b 180 1;").bestPace(), 101);
        // From 100 to 141 the misclosure keeps the root 10000, although its square grows; the lowest pace is due.
        checks.due("equal roots", Checks.loaded("survey 0 141;leg a 0 1 0;bog b 90 1;").misclosure(), 10000);
    }

    private static void averages() {
        ChainSurvey x = new ChainSurvey();
        checks.dueDouble("meanLeg()", x.meanLeg(), 39951.25);
        checks.dueFloat("bogShare()", x.bogShare(), 39000f / 159805f);
        ChainSurvey y = Checks.loaded("survey 0 100;bog a 0 1;leg b 0 0 1;leg c 0 0 2;");
        checks.dueDouble("meanLeg()", y.meanLeg(), 400.0 / 3.0);
        checks.dueFloat("bogShare()", y.bogShare(), 0.25f);
        checks.dueFloat("bogShare() of bogs alone", Checks.loaded("survey 0 100;bog a 0 1;bog b 0 7;").bogShare(), 1.0f);
        checks.dueFloat("bogShare() of no bog", Checks.loaded("survey 0 100;leg a 0 1 0;").bogShare(), 0.0f);
        checks.dueFloat("bogShare() rounds its numbers", Checks.loaded("survey 999 999;leg a 0 99 99 at 50;leg b 0 99 99 at 50;leg c 0 99 99 at 50;"
                + "leg d 0 99 99 at 50;leg e 0 99 99 at 50;leg f 0 99 99 at 50;leg g 0 99 99 at 50;leg h 0 99 99 at 50;leg i 0 99 99 at 50;"
                + "leg j 0 99 99 at 50;leg k 0 99 99 at 50;leg l 0 99 99 at 50;leg m 0 99 99 at 50;leg n 0 99 99 at 50;leg o 0 99 99 at 50;"
                + "leg p 0 99 99 at 50;bog q 0 999;").bogShare(), (float) 998001 / (float) 18602017);
    }

    private static void outputs() {
        ChainSurvey x = new ChainSurvey();
        checks.due("outputByte(0) before", x.outputByte(0), -1);
        checks.due("writeStations()", x.writeStations(), 41);
        checks.due("output", Checks.output(x), "0,0 40226,-276 40353,39548 -124,39269 0,0");
        checks.due("outputByte(1)", x.outputByte(1), 44);
        checks.due("outputByte(10)", x.outputByte(10), 45);
        checks.due("outputByte(3)", x.outputByte(3), 32);
        checks.due("outputByte(40)", x.outputByte(40), 48);
        checks.due("outputByte(41)", x.outputByte(41), -1);
        checks.due("outputByte(-1)", x.outputByte(-1), -1);
        checks.due("outputByte(MIN)", x.outputByte(Integer.MIN_VALUE), -1);
        checks.due("outputByte(MAX)", x.outputByte(Integer.MAX_VALUE), -1);
        Checks.load(x, "survey 0 100;bog a 0 1;bog b 90 1;bog c 180 2;bog d 270 10;");
        checks.due("the output stays until it is written", x.outputByte(40), 48);
        checks.due("writeStations()", x.writeStations(), 36);
        checks.due("output", Checks.output(x), "0,0 0,100 100,100 100,-100 -900,-100");
        checks.due("a shorter output", x.outputByte(36), -1);
        checks.due("writeStations() is no change", x.undoableChanges(), 1);
        Checks.load(x, "survey 0 101;bog a 0 99;bog b 195 990;");
        checks.due("writeStations()", x.writeStations(), 24);
        checks.due("output", Checks.output(x), "0,0 0,9999 -25877,-86581");
    }
}
