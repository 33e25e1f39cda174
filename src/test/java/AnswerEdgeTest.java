/** The edges of promises 19 to 35 and 37 to 61 and of "Units", "Lengths" and "Coordinates". */
public final class AnswerEdgeTest {
    private static final Checks checks = new Checks();
    private static final int MIN = Integer.MIN_VALUE;
    private static final int MAX = Integer.MAX_VALUE;

    public static void main(String[] args) {
        countsFromNoneToTwenty();
        pinsAndTalliesAtTheirEnds();
        bogLegsHaveNoPins();
        bytesOfNames();
        readLengths();
        wearIsRoundedDown();
        heatAndColdAreRoundedToZero();
        riseAsLongAsTheSlope();
        rootsOfHorizontalLengths();
        stepsAreRoundedToZero();
        coordinatesFromTheFirstToTheLastStation();
        rootsOfDistances();
        sharesAreRoundedToZero();
        thePerimeterIsZero();
        precisionAtItsEdges();
        widthAndHeight();
        stationsThatAreGone();
        theFarthestStation();
        theLongestLeg();
        lengthOfBogs();
        areasOfEitherSign();
        ifAPinHadBeenDropped();
        theSuspectLeg();
        theBestPace();
        noInconsistencies();
        meansAndShares();
        numbersInTheOutput();
        bytesOfTheOutput();
        theGreatestNumbers();
        checks.finish();
    }

    private static ChainSurvey with(int wear, int pace, String legs) {
        return Checks.loaded("survey " + wear + " " + pace + ";" + legs);
    }

    /**
     * The commands that move by some units to the east and the north, each from -99 to 99, with a pace
     * of 101: so many paces less as many links.
     */
    private static String move(String name, int east, int north) {
        return shift(name + "e", east, 90) + shift(name + "n", north, 0);
    }

    private static String shift(String name, int units, int bearing) {
        if (units == 0) {
            return "";
        }
        int count = Math.abs(units);
        int there = units > 0 ? bearing : bearing + 180;
        return "bog " + name + "p " + there + " " + count + ";leg " + name + "l " + (there + 180) % 360 + " 0 " + count + ";";
    }

    private static ChainSurvey moved(String moves) {
        return with(0, 101, moves);
    }

    // ---- promises 19 to 35

    private static void countsFromNoneToTwenty() {
        for (int legs = 0; legs <= 20; legs++) {
            ChainSurvey x = Probes.loaded(legs);
            checks.due("legCount()", x.legCount(), legs);
            checks.due("stationCount()", x.stationCount(), legs + 1);
            checks.due("undoableChanges()", x.undoableChanges(), 1);
            for (int leg = 0; leg < legs; leg++) {
                checks.due("bearing(" + leg + ")", x.bearing(leg), leg * 15);
                checks.due("isBog(" + leg + ")", x.isBog(leg), leg == legs - 2);
            }
        }
        for (int wear : new int[] {0, 1, 998, 999}) {
            checks.due("wear()", with(wear, 100, "").wear(), wear);
        }
        for (int pace : new int[] {100, 101, 998, 999}) {
            checks.due("pace()", with(0, pace, "").pace(), pace);
        }
        checks.due("isAdjusted()", with(0, 100, "adjust;").isAdjusted(), true);
        checks.due("isAdjusted()", with(0, 100, "").isAdjusted(), false);
    }

    /** "A tenth of all pins including the dropped ones, rounded down." */
    private static void pinsAndTalliesAtTheirEnds() {
        for (int pins = 0; pins <= 99; pins++) {
            for (int dropped = 0; dropped <= 9; dropped += 3) {
                ChainSurvey x = with(0, 100, "leg a 0 " + pins + " 99 dropped " + dropped + ";");
                checks.due("pins(0)", x.pins(0), pins);
                checks.due("droppedPins(0)", x.droppedPins(0), dropped);
                int tens = (pins + dropped - (pins + dropped) % 10) / 10;
                checks.due("tallies(0) of " + pins + " and " + dropped, x.tallies(0), tens);
            }
        }
    }

    /** "0 for a bog leg." */
    private static void bogLegsHaveNoPins() {
        for (int paces : new int[] {1, 10, 999}) {
            ChainSurvey x = with(999, 999, "leg a 0 99 99 dropped 9;back;bog a 0 " + paces + ";");
            checks.due("pins(0)", x.pins(0), 0);
            checks.due("droppedPins(0)", x.droppedPins(0), 0);
            checks.due("tallies(0)", x.tallies(0), 0);
            checks.due("isBog(0)", x.isBog(0), true);
        }
    }

    /** "NONE if there is no such byte." */
    private static void bytesOfNames() {
        String[] names = {"a", "zy", "mno", "aaaa", "zzzzz", "abcxyz"};
        for (String name : names) {
            ChainSurvey x = with(0, 100, "leg longer 0 0 0;bog " + name + " 0 1;leg others 0 0 0;");
            for (int i = 0; i < name.length(); i++) {
                checks.due("nameByte(1, " + i + ") of " + name, x.nameByte(1, i), name.charAt(i));
            }
            for (int i : new int[] {-1, name.length(), name.length() + 1, 6, 7, 31, 32, 64, -6, -32, MIN, MAX}) {
                checks.due("nameByte(1, " + i + ") of " + name, x.nameByte(1, i), -1);
            }
        }
        ChainSurvey x = Checks.loaded("survey 0 100;");
        x.addLeg(0, 0, 0, 0, 0);
        checks.due("nameByte(0, 0)", x.nameByte(0, 0), 'q');
        checks.due("nameByte(0, 1)", x.nameByte(0, 1), 'a');
        checks.due("nameByte(0, 2)", x.nameByte(0, 2), -1);
    }

    private static void readLengths() {
        checks.due("nothing", with(999, 999, "leg a 0 0 0 rise 9999 at 50;").readLength(0), 0);
        checks.due("a link", with(999, 999, "leg a 0 0 1 at 50;").readLength(0), 100);
        checks.due("a pin", with(999, 999, "leg a 0 1 0 at 50;").readLength(0), 10000);
        checks.due("a dropped pin", with(999, 999, "leg a 0 0 0 dropped 1 at 50;").readLength(0), 10000);
        checks.due("99 links", with(0, 100, "leg a 0 0 99;").readLength(0), 9900);
        checks.due("the most", with(0, 100, "leg a 0 99 99 dropped 9;").readLength(0), 1089900);
        checks.due("the least bog", with(0, 100, "bog a 0 1;").readLength(0), 100);
        checks.due("the most bog", with(0, 999, "bog a 0 999;").readLength(0), 998001);
    }

    private static void dueSlope(int wear, String leg, int due) {
        checks.due("slopeLength of " + leg + " with a wear of " + wear, with(wear, 100, "leg a 0 " + leg + ";").slopeLength(0), due);
    }

    /** "The read length times the wear, divided by 10000, is added." */
    private static void wearIsRoundedDown() {
        dueSlope(999, "0 0", 0);
        dueSlope(0, "99 99", 999900);
        dueSlope(1, "0 99", 9900);
        dueSlope(1, "1 0", 10001);
        dueSlope(1, "1 99", 19901);
        dueSlope(1, "2 0", 20002);
        dueSlope(99, "0 1", 100);
        dueSlope(100, "0 1", 101);
        dueSlope(199, "0 1", 101);
        dueSlope(200, "0 1", 102);
        dueSlope(999, "0 1", 109);
        dueSlope(999, "99 99 dropped 9", 1198781);
        // The wear counts for the dropped pins too.
        dueSlope(10, "0 0 dropped 1", 10010);
    }

    /** "The temperature minus 15 may be negative"; the quotient of a negative number is the negated one. */
    private static void heatAndColdAreRoundedToZero() {
        dueSlope(0, "8 33 at 16", 83300);
        dueSlope(0, "8 34 at 16", 83401);
        dueSlope(0, "16 66 at 16", 166601);
        dueSlope(0, "16 67 at 16", 166702);
        dueSlope(0, "8 33 at 14", 83300);
        dueSlope(0, "8 34 at 14", 83399);
        dueSlope(0, "16 66 at 14", 166599);
        dueSlope(0, "16 67 at 14", 166698);
        dueSlope(0, "25 0 at 25", 250030);
        dueSlope(0, "25 0 at 5", 249970);
        dueSlope(0, "99 99 at 15", 999900);
        dueSlope(0, "0 0 at 0", 0);
        dueSlope(0, "0 0 at 50", 0);
        dueSlope(0, "0 1 at 0", 100);
        dueSlope(0, "0 1 at 50", 100);
        dueSlope(0, "0 55 at 0", 5500);
        dueSlope(0, "0 56 at 0", 5599);
        dueSlope(0, "0 23 at 50", 2300);
        dueSlope(0, "0 24 at 50", 2401);
        // "The length so far" is the one with the wear: 83300 + 33 is too short by 1, 83300 + 41 long enough.
        dueSlope(4, "8 33 at 16", 83333);
        dueSlope(5, "8 33 at 16", 83342);
        dueSlope(4, "8 33 at 14", 83333);
        dueSlope(5, "8 33 at 14", 83340);
        // 10101 * 33 * 12 and 111111 * 15 * 12 are just below 4 and 20 times a million.
        dueSlope(1, "1 1 at 48", 10104);
        dueSlope(1, "11 11 at 0", 111092);
    }

    private static void dueLevel(int wear, String leg, int slope, int due) {
        ChainSurvey x = with(wear, 100, "leg a 0 " + leg + ";");
        checks.due("slopeLength of " + leg, x.slopeLength(0), slope);
        checks.due("horizontalLength of " + leg, x.horizontalLength(0), due);
    }

    /** "Or 0 if the rise is greater": just shorter, equal and just longer. */
    private static void riseAsLongAsTheSlope() {
        dueLevel(0, "8 34 rise 834 at 14", 83399, 0);
        dueLevel(0, "8 34 rise 834", 83400, 0);
        dueLevel(0, "8 34 rise 834 at 16", 83401, 408);
        dueLevel(0, "8 34 rise 833", 83400, 4082);
        dueLevel(0, "8 34 rise 835", 83400, 0);
        dueLevel(0, "0 0 rise 0", 0, 0);
        dueLevel(0, "0 0 rise 1", 0, 0);
        dueLevel(0, "0 0 rise 9999", 0, 0);
        dueLevel(0, "0 1 rise 0", 100, 100);
        dueLevel(0, "99 99 rise 9999", 999900, 0);
        dueLevel(999, "99 99 dropped 9 rise 9999 at 50", 1199284, 662179);
    }

    /** "The greatest integer whose square is not greater than the number." */
    private static void rootsOfHorizontalLengths() {
        dueLevel(0, "0 5 rise 4", 500, 300);
        dueLevel(250, "0 2 rise 2", 205, 45);
        // 1025 is one more than the square of 32, 201600 one less than the square of 449.
        dueLevel(500, "0 1 rise 1", 105, 32);
        dueLevel(800, "0 5 rise 3", 540, 448);
        dueLevel(0, "0 2 rise 1", 200, 173);
        dueLevel(100, "0 1 rise 1", 101, 14);
    }

    // ---- stations

    private static void stepsAreRoundedToZero() {
        // 100 * 0.2588 = 25.88, 100 * 0.7071 = 70.71, 100 * 0.9659 = 96.59, 100 * 0.8660 = 86.6.
        int[] easts = {0, 25, 50, 70, 86, 96, 100, 96, 86, 70, 50, 25, 0, -25, -50, -70, -86, -96, -100, -96, -86, -70, -50, -25};
        int[] norths = {100, 96, 86, 70, 50, 25, 0, -25, -50, -70, -86, -96, -100, -96, -86, -70, -50, -25, 0, 25, 50, 70, 86, 96};
        for (int i = 0; i < 24; i++) {
            ChainSurvey x = with(0, 100, "bog a " + i * 15 + " 1;leg b " + i * 15 + " 0 1;leg c " + i * 15 + " 0 0;");
            for (int leg = 0; leg < 2; leg++) {
                checks.due("eastStep(" + leg + ") at " + i * 15, x.eastStep(leg), easts[i]);
                checks.due("northStep(" + leg + ") at " + i * 15, x.northStep(leg), norths[i]);
            }
            checks.due("eastStep(2)", x.eastStep(2), 0);
            checks.due("northStep(2)", x.northStep(2), 0);
        }
    }

    /** "Station 0 has the coordinates 0 east and 0 north"; the run is that of the legs before a station. */
    private static void coordinatesFromTheFirstToTheLastStation() {
        for (int legs = 0; legs <= 20; legs++) {
            for (boolean isAdjusted : new boolean[] {false, true}) {
                ChainSurvey x = Probes.loaded(legs);
                x.setAdjusted(isAdjusted);
                checks.due("rawEast(0)", x.rawEast(0), 0);
                checks.due("rawNorth(0)", x.rawNorth(0), 0);
                checks.due("east(0)", x.east(0), 0);
                checks.due("north(0)", x.north(0), 0);
                checks.due("run(0)", x.run(0), 0);
                checks.due("distanceFromStart(0)", x.distanceFromStart(0), 0);
                checks.due("run of the last", x.run(legs), x.perimeter());
                checks.due("rawEast of the last", x.rawEast(legs), x.closingEast());
                checks.due("rawNorth of the last", x.rawNorth(legs), x.closingNorth());
                checks.due("east of the last", x.east(legs), isAdjusted ? 0 : x.closingEast());
                checks.due("north of the last", x.north(legs), isAdjusted ? 0 : x.closingNorth());
                checks.due("distance of the last", x.distanceFromStart(legs), isAdjusted ? 0 : x.misclosure());
            }
        }
    }

    /** The root of every sum of two squares up to 30: just below, at and above each square. */
    private static void rootsOfDistances() {
        for (int east = -30; east <= 30; east += east < -5 || east > 5 ? 5 : 1) {
            for (int north = -30; north <= 30; north++) {
                int root = 0;
                while ((root + 1) * (root + 1) <= east * east + north * north) {
                    root++;
                }
                ChainSurvey x = moved(move("a", east, north));
                checks.due("misclosure() of " + east + ", " + north, x.misclosure(), root);
                checks.due("distanceFromStart() of " + east + ", " + north, x.distanceFromStart(x.legCount()), root);
            }
        }
    }

    /** "Minus the closing error, times the run, divided by the perimeter", rounded to 0 for either sign. */
    private static void sharesAreRoundedToZero() {
        int[] signs = {1, -1};
        for (int sign : signs) {
            // The closing error is 1 of a perimeter of 201; 101 / 201 of it is rounded to 0.
            ChainSurvey x = moved(move("a", sign, sign) + "adjust;");
            int[] easts = {0, 101, 1, 1, 0};
            int[] norths = {0, 0, 0, 101, 0};
            for (int station = 0; station < 5; station++) {
                checks.due("east(" + station + ")", x.east(station), sign * easts[station]);
                checks.due("north(" + station + ")", x.north(station), sign * norths[station]);
            }
            // The closing error is 3 of a perimeter of 603: 303 / 603 of it is 1, 303 + 300 of it is 3.
            ChainSurvey y = moved(move("a", 3 * sign, 0) + "adjust;");
            checks.due("east(1)", y.east(1), sign * 302);
            checks.due("east(2)", y.east(2), 0);
            checks.due("rawEast(2)", y.rawEast(2), sign * 3);
            checks.due("north(1)", y.north(1), 0);
        }
    }

    /** "If the perimeter is 0, nothing is subtracted." */
    private static void thePerimeterIsZero() {
        String[] legs = {"", "leg a 15 0 0;", "leg a 15 0 0;leg b 195 1 0 rise 100;leg c 90 0 5 rise 6;"};
        for (int i = 0; i < legs.length; i++) {
            for (String kind : new String[] {"adjust;", "raw;"}) {
                ChainSurvey x = with(0, 100, legs[i] + kind);
                int count = new int[] {0, 1, 3}[i];
                for (int station = 0; station <= count; station++) {
                    checks.due("the station", x.east(station) + " " + x.north(station) + " " + x.rawEast(station) + " " + x.rawNorth(station), "0 0 0 0");
                    checks.due("run", x.run(station) + x.distanceFromStart(station), 0);
                }
                checks.due("perimeter()", x.perimeter(), 0);
                checks.due("precision()", x.precision(), -1);
                checks.due("sums", x.closingEast() + x.closingNorth() + x.misclosure() + x.width() + x.height() + x.bogLength() + x.area(), 0);
                checks.due("farthestStation()", x.farthestStation(), 0);
                checks.due("longestLeg()", x.longestLeg(), count == 0 ? -1 : 0);
                checks.due("inconsistencies()", x.inconsistencies(), 0);
                checks.dueDouble("meanLeg()", x.meanLeg(), 0.0);
                checks.dueFloat("bogShare()", x.bogShare(), 0.0f);
                checks.due("bestPace()", x.bestPace(), -1);
            }
        }
    }

    // ---- promises 43 to 53

    /** "The perimeter divided by the misclosure; NONE if the misclosure is 0." */
    private static void precisionAtItsEdges() {
        checks.due("closed", moved("leg a 0 1 0;leg b 180 1 0;").precision(), -1);
        checks.due("a straight leg", moved("leg a 0 1 0;").precision(), 1);
        // A perimeter of 201 and a misclosure of 1; then 402 and the root of 2, which is 1.
        checks.due("a misclosure of 1", moved(move("a", 1, 0)).precision(), 201);
        checks.due("a misclosure of the root of 2", moved(move("a", -1, 1)).precision(), 402);
        // 20000 / 10000 and 19900 / 10100 by links and a bog, rounded down.
        checks.due("just twice", moved("leg a 0 1 50;leg b 180 0 50;").precision(), 2);
        checks.due("a little less", moved("leg a 0 1 50;leg b 180 0 49;").precision(), 1);
        checks.due("adjusted", moved("leg a 0 1 50;leg b 180 0 50;adjust;").precision(), 2);
    }

    /** "The difference of the greatest and the least coordinate of all stations", of station 0 too. */
    private static void widthAndHeight() {
        checks.due("width to the east", moved("leg a 90 2 0;leg b 90 1 0;").width(), 30000);
        checks.due("width to the west", moved("leg a 270 2 0;leg b 270 1 0;").width(), 30000);
        checks.due("height to the north", moved("leg a 0 2 0;leg b 0 1 0;").height(), 30000);
        checks.due("height to the south", moved("leg a 180 2 0;leg b 180 1 0;").height(), 30000);
        checks.due("width to both sides", moved("leg a 90 2 0;leg b 270 5 0;leg c 90 1 0;").width(), 50000);
        checks.due("height to both sides", moved("leg a 180 2 0;leg b 0 5 0;leg c 180 1 0;").height(), 50000);
        checks.due("width of a line to the north", moved("leg a 0 1 0;").width(), 0);
        checks.due("height of a line to the east", moved("leg a 90 1 0;").height(), 0);
        checks.due("width of no leg", moved("").width(), 0);
        checks.due("height of no leg", moved("").height(), 0);
        checks.due("width, adjusted", moved("leg a 90 1 0;leg b 90 1 0;adjust;").width(), 0);
        checks.due("height, adjusted", moved("leg a 0 3 0;leg b 180 1 0;adjust;").height(), 15000);
    }

    /** What stations there were before must not be seen in the answers. */
    private static void stationsThatAreGone() {
        ChainSurvey x = moved("leg a 45 1 0;leg b 45 9 0;leg c 225 20 0;");
        String before = everything(x);
        for (int left = 2; left >= 0; left--) {
            x.removeLast();
            String due = everything(moved("leg a 45 1 0;leg b 45 9 0;leg c 225 20 0;" + "back;".repeat(3 - left)));
            checks.due("all answers of " + left + " legs", everything(x), due);
        }
        x.undo();
        x.undo();
        x.undo();
        checks.due("all answers of the legs that are back", everything(x), before);
    }

    private static String everything(ChainSurvey x) {
        x.writeStations();
        return x.perimeter() + " " + x.closingEast() + " " + x.closingNorth() + " " + x.misclosure() + " " + x.precision() + " " + x.width() + " "
                + x.height() + " " + x.farthestStation() + " " + x.longestLeg() + " " + x.bogLength() + " " + x.area() + " " + x.suspectLeg() + " "
                + x.bestPace() + " " + x.inconsistencies() + " " + x.meanLeg() + " " + x.bogShare() + " " + Checks.output(x);
    }

    /** "A tie goes to the lowest number." */
    private static void theFarthestStation() {
        checks.due("none", moved("").farthestStation(), 0);
        checks.due("no length", moved("leg a 0 0 0;leg b 0 0 0;").farthestStation(), 0);
        checks.due("the first leg's end", moved("leg a 0 1 0;leg b 90 0 0;leg c 180 0 1;").farthestStation(), 1);
        checks.due("a tie of opposite ends", moved("leg a 0 1 0;leg b 180 2 0;leg c 0 2 0;").farthestStation(), 1);
        // 10100 to the north, 10000 and then 10101 to the south.
        checks.due("one unit more", moved("bog a 0 100;leg b 180 2 1;bog c 180 1;leg d 0 0 1;").farthestStation(), 3);
        checks.due("the last", moved("leg a 0 1 0;leg b 0 1 0;leg c 0 1 0;").farthestStation(), 3);
        checks.due("the last but adjusted", moved("leg a 0 1 0;leg b 0 1 0;leg c 0 1 0;adjust;").farthestStation(), 0);
        checks.due("the middle, adjusted", moved("leg a 0 1 0;leg b 180 1 0;leg c 90 1 0;adjust;").farthestStation(), 1);
        checks.due("back at the start", moved("leg a 0 1 0;leg b 180 1 0;").farthestStation(), 1);
        // 5000, 8660 and 7071, 7071 both lie at the distance 9999, though their squares differ.
        checks.due("equal roots", moved("leg a 30 1 0;leg b 210 1 0;leg c 45 1 0;").farthestStation(), 1);
        checks.due("equal roots", moved("leg a 45 1 0;leg b 225 1 0;leg c 30 1 0;").farthestStation(), 1);
        ChainSurvey twenty = Probes.loaded(20);
        for (int station = 0; station <= 20; station++) {
            checks.due("not farther", twenty.distanceFromStart(station) <= twenty.distanceFromStart(twenty.farthestStation()), true);
        }
    }

    private static void theLongestLeg() {
        checks.due("none", moved("").longestLeg(), -1);
        checks.due("one of no length", moved("leg a 0 0 0;").longestLeg(), 0);
        checks.due("two of no length", moved("leg a 0 0 0;leg b 0 1 0 rise 100;").longestLeg(), 0);
        checks.due("a tie of three", moved("leg a 0 0 0;leg b 0 1 1;bog c 90 100;leg d 180 1 1;").longestLeg(), 1);
        checks.due("one unit more", with(0, 999, "leg a 0 0 9;leg b 0 0 9;bog c 0 1;leg d 0 0 9;").longestLeg(), 2);
        checks.due("one unit less", with(0, 899, "bog c 0 1;leg a 0 0 9;").longestLeg(), 1);
        checks.due("the first of a tie", moved("leg a 0 1 0;leg b 0 1 0;").longestLeg(), 0);
        ChainSurvey removed = moved("leg a 0 1 0;leg b 0 2 0;back;");
        checks.due("a removed leg", removed.longestLeg(), 0);
    }

    private static void lengthOfBogs() {
        checks.due("no leg", with(0, 100, "").bogLength(), 0);
        checks.due("no bog leg", with(0, 100, "leg a 0 1 0;").bogLength(), 0);
        checks.due("the least", with(999, 100, "bog a 0 1;leg b 0 1 0;").bogLength(), 100);
        checks.due("two", with(999, 200, "bog a 0 1;leg b 0 1 0;bog c 180 2;").bogLength(), 600);
        StringBuilder all = new StringBuilder();
        for (char name = 'a'; name < 'a' + 20; name++) {
            all.append("bog ").append(name).append(" 45 999;");
        }
        checks.due("twenty", with(0, 999, all.toString()).bogLength(), 19960020);
    }

    /** "Half of the absolute value", "divided by 2 as usual". */
    private static void areasOfEitherSign() {
        checks.due("no leg", moved("").area(), 0);
        checks.due("one leg", moved("leg a 45 9 9;").area(), 0);
        // A triangle of 0, 0 and 1, 0 and 1, 1 has the sum 1, which is halved to 0 in either sense.
        String[] one = {move("a", 1, 0) + move("b", 0, 1), move("a", 0, 1) + move("b", 1, 0), move("a", -1, 0) + move("b", 0, 1)};
        for (String moves : one) {
            // On the way lie corners that add nothing, as they lie in the line of a leg.
            checks.due("half a unit", moved(moves).area(), 0);
        }
        checks.due("three halves", moved(move("a", 3, 0) + move("b", 0, 1)).area(), 1);
        checks.due("minus three halves", moved(move("a", 0, 1) + move("b", 3, 0)).area(), 1);
        checks.due("two halves", moved(move("a", 2, 0) + move("b", 0, 1)).area(), 1);
        checks.due("the closing side is counted", moved("leg a 0 1 0;leg b 90 1 0;").area(), 50000000);
        checks.due("the adjusted coordinates count", moved("leg a 0 1 0;leg b 90 1 0;adjust;").area(), 0);
    }

    // ---- promises 54 to 59

    /** "NONE if dropPin() would throw an IllegalStateException." */
    private static void ifAPinHadBeenDropped() {
        ChainSurvey x = with(0, 100, "leg a 0 0 0 dropped 9;leg b 180 0 0 dropped 8;bog c 0 1;leg d 0 0 0;");
        checks.due("with 9", x.misclosureIfDropped(0), -1);
        checks.due("with 8", x.misclosureIfDropped(1), 100);
        checks.due("a bog leg", x.misclosureIfDropped(2), -1);
        checks.due("with 0", x.misclosureIfDropped(3), 20100);
        checks.due("misclosure() as before", x.misclosure(), 10100);
        for (int leg = 0; leg < 4; leg += 3) {
            ChainSurvey y = Checks.loaded("survey 77 100;leg a 15 1 1 rise 50 at 40;bog b 90 5;leg c 210 0 0;leg d 300 0 2 dropped 8 rise 99;adjust;");
            int forecast = y.misclosureIfDropped(leg);
            y.dropPin(leg);
            checks.due("what dropPin() brings", y.misclosure(), forecast);
        }
        checks.due("a rise that is no longer greater", with(0, 100, "leg a 0 0 0 rise 60;").misclosureIfDropped(0), 8000);
    }

    /** "A tie goes to the lowest number; NONE if no dropped pin would make it less than it is." */
    private static void theSuspectLeg() {
        checks.due("no leg", moved("").suspectLeg(), -1);
        checks.due("a bog leg alone", moved("bog a 0 1;").suspectLeg(), -1);
        checks.due("closed", moved("leg a 0 1 0;leg b 180 1 0;").suspectLeg(), -1);
        checks.due("as much as it is", moved("leg a 0 0 0;leg b 180 0 50;").suspectLeg(), -1);
        // With a pin more to the north, 5001 to the south would be 4999 to the north, and 4999 would be 5001.
        checks.due("a little less", moved("leg a 0 0 0;leg b 180 0 50;" + move("c", 0, -1)).suspectLeg(), 0);
        checks.due("a little more", moved("leg a 0 0 0;leg b 180 0 50;" + move("c", 0, 1)).suspectLeg(), -1);
        checks.due("a tie", moved("leg z 0 0 0;leg a 180 1 0;leg b 180 1 0;leg c 0 3 0;").suspectLeg(), 1);
        checks.due("the first has 9", moved("leg a 180 0 0 dropped 9;leg b 180 0 0 dropped 8;leg c 0 50 0;").suspectLeg(), 1);
        checks.due("all have 9", moved("leg a 180 0 0 dropped 9;leg b 180 0 0 dropped 9;leg c 0 50 0 dropped 9;").suspectLeg(), -1);
        checks.due("the last", moved("leg c 0 50 0;leg a 150 0 0;leg b 180 0 0;").suspectLeg(), 2);
        checks.due("the rise swallows the pin", moved("leg c 0 50 0;leg a 180 0 0 rise 101;leg b 150 0 0;").suspectLeg(), 2);
    }

    /** "100 to 999; a tie goes to the lowest one; NONE if there is no bog leg." */
    private static void theBestPace() {
        checks.due("no leg", with(0, 500, "").bestPace(), -1);
        checks.due("no bog leg", with(0, 500, "leg a 0 1 0;").bestPace(), -1);
        checks.due("a removed bog leg", with(0, 500, "leg a 0 1 0;bog b 180 1;back;").bestPace(), -1);
        checks.due("all tie", with(0, 500, "bog a 0 1;bog b 180 1;").bestPace(), 100);
        checks.due("the least", with(0, 500, "bog a 0 1;").bestPace(), 100);
        checks.due("the greatest", with(0, 500, "leg a 0 99 99;bog b 180 1;").bestPace(), 999);
        // 10 paces against 999, 1000, 998 and 101 units each.
        checks.due("just the least", with(0, 500, "leg a 0 0 10;bog b 180 10;").bestPace(), 100);
        checks.due("just above the least", with(100, 500, "leg a 0 0 10;bog b 180 10;").bestPace(), 101);
        checks.due("just below the greatest", with(0, 500, "leg a 0 9 98;bog b 180 100;").bestPace(), 998);
        checks.due("just the greatest", with(0, 500, "leg a 0 9 99;bog b 180 100;").bestPace(), 999);
        checks.due("just too great", with(0, 500, "leg a 0 10 0;bog b 180 100;").bestPace(), 999);
        // 303 units against two paces: 151 and 152 both leave one unit.
        checks.due("a tie of two", with(100, 500, "leg a 0 0 3;bog b 180 2;").bestPace(), 151);
        checks.due("the first leg and the last", with(0, 500, "bog a 0 40;leg b 180 3 0;bog c 0 60;").bestPace(), 300);
        checks.due("whatever the pace is", with(0, 100, "leg a 0 3 0;bog b 180 100;").bestPace(), 300);
        checks.due("whatever the pace is", with(0, 999, "leg a 0 3 0;bog b 180 100;").bestPace(), 300);
        checks.due("adjusted", with(0, 999, "leg a 0 3 0;bog b 180 100;adjust;").bestPace(), 300);
    }

    private static void noInconsistencies() {
        String[] setups = {"", "leg a 15 0 0;", "leg a 15 1 1;", "leg a 15 1 1 rise 99;bog b 30 999;", "leg a 15 1 1 rise 101 at 0;", "bog a 255 1;"};
        for (String setup : setups) {
            checks.due("raw", with(999, 999, setup).inconsistencies(), 0);
            checks.due("adjusted", with(999, 999, setup + "adjust;").inconsistencies(), 0);
        }
        for (int legs = 0; legs <= 20; legs++) {
            checks.due("many legs", Probes.loaded(legs).inconsistencies(), 0);
        }
    }

    /** "0.0 if there is no leg", "0.0f if the perimeter is 0", and neither is a negative zero. */
    private static void meansAndShares() {
        checks.dueDouble("meanLeg() of no leg", with(0, 100, "").meanLeg(), 0.0);
        checks.dueDouble("meanLeg() of no length", with(0, 100, "leg a 0 0 0;").meanLeg(), 0.0);
        checks.dueDouble("meanLeg() of one", with(0, 100, "leg a 0 0 1;").meanLeg(), 100.0);
        checks.dueDouble("meanLeg() of a half", with(0, 101, "bog a 0 1;leg b 0 0 0;").meanLeg(), 50.5);
        checks.dueDouble("meanLeg() of a third", with(0, 100, "leg a 0 0 1;leg b 0 0 0;leg c 0 0 0;").meanLeg(), 100.0 / 3.0);
        checks.dueDouble("meanLeg() of two thirds", with(0, 100, "leg a 0 0 1;leg b 0 0 1;leg c 0 0 0;").meanLeg(), 200.0 / 3.0);
        checks.dueFloat("bogShare() of no leg", with(0, 100, "").bogShare(), 0.0f);
        checks.dueFloat("bogShare() of no length", with(0, 100, "leg a 0 0 0;").bogShare(), 0.0f);
        checks.dueFloat("bogShare() of no bog leg", with(0, 100, "leg a 0 0 1;").bogShare(), 0.0f);
        checks.dueFloat("bogShare() of bog legs alone", with(0, 100, "bog a 0 1;leg b 0 0 0;").bogShare(), 1.0f);
        checks.dueFloat("bogShare() of a third", with(0, 100, "bog a 0 1;leg b 0 0 2;").bogShare(), 100f / 300f);
        checks.dueFloat("bogShare() of two thirds", with(0, 100, "bog a 0 2;leg b 0 0 1;").bogShare(), 200f / 300f);
    }

    // ---- promises 60 and 61

    private static void dueOutput(ChainSurvey x, String due) {
        checks.due("writeStations()", x.writeStations(), due.length());
        checks.due("output", Checks.output(x), due);
        checks.due("outputByte behind it", x.outputByte(due.length()), -1);
    }

    /** "With a hyphen before a negative number": 0 has none, and no number has zeros before it. */
    private static void numbersInTheOutput() {
        dueOutput(moved(""), "0,0");
        dueOutput(moved("leg a 0 0 0;"), "0,0 0,0");
        dueOutput(moved("leg a 45 0 0 rise 5;adjust;"), "0,0 0,0");
        for (int east : new int[] {-99, -10, -9, -1, 0, 1, 9, 10, 99}) {
            for (int north : new int[] {-99, -10, -9, -1, 0, 1, 9, 10, 99}) {
                ChainSurvey x = moved(move("a", east, north));
                x.writeStations();
                String output = Checks.output(x);
                checks.due("the last station", output.substring(output.lastIndexOf(' ') + 1), east + "," + north);
                int stations = 1 + (east == 0 ? 0 : 2) + (north == 0 ? 0 : 2);
                checks.due("the stations", output.split(" ").length, stations);
            }
        }
        String[] legs = {"bog a 90 1", "leg a 90 0 10", "leg a 90 1 0", "leg a 90 10 0", "leg a 180 0 99", "leg a 270 99 99", "leg a 180 99 99 dropped 1"};
        String[] due = {"101,0", "1000,0", "10000,0", "100000,0", "0,-9900", "-999900,0", "0,-1009900"};
        for (int i = 0; i < legs.length; i++) {
            dueOutput(moved(legs[i] + ";"), "0,0 " + due[i]);
        }
        StringBuilder far = new StringBuilder();
        StringBuilder farDue = new StringBuilder("0,0");
        for (int leg = 0; leg < 20; leg++) {
            far.append("leg ").append((char) ('a' + leg)).append(" 270 99 99;");
            farDue.append(" -").append(999900 * (leg + 1)).append(",0");
        }
        dueOutput(moved(far.toString()), farDue.toString());
    }

    /** "NONE if there is no such byte"; writeStations() "replaces the previous output". */
    private static void bytesOfTheOutput() {
        ChainSurvey x = moved("leg a 0 1 0;leg b 180 2 0;");
        for (int i : new int[] {-1, 0, 1, 100, MIN, MAX}) {
            checks.due("outputByte(" + i + ") before", x.outputByte(i), -1);
        }
        String due = "0,0 0,10000 0,-10000";
        checks.due("writeStations()", x.writeStations(), due.length());
        for (int i = 0; i < due.length(); i++) {
            checks.due("outputByte(" + i + ")", x.outputByte(i), due.charAt(i));
        }
        for (int i : new int[] {-1, due.length(), due.length() + 1, 511, 512, 900, MIN, MAX}) {
            checks.due("outputByte(" + i + ")", x.outputByte(i), -1);
        }
        x.removeLast();
        x.removeLast();
        checks.due("the output stays", Checks.output(x), due);
        checks.due("a shorter one", x.writeStations(), 3);
        for (int i = 3; i < due.length(); i++) {
            checks.due("a byte of the previous output", x.outputByte(i), -1);
        }
        checks.due("the same once more", x.writeStations(), 3);
        checks.due("output", Checks.output(x), "0,0");
        x.undo();
        checks.due("a longer one", x.writeStations(), 11);
        checks.due("output", Checks.output(x), "0,0 0,10000");
    }

    // ---- the greatest numbers

    /** Twenty legs of the greatest length in each direction: no sum and no product wraps around. */
    private static void theGreatestNumbers() {
        int[] easts = {0, 1199284, 0, -1199284};
        int[] norths = {1199284, 0, -1199284, 0};
        for (int turn = 0; turn < 4; turn++) {
            StringBuilder legs = new StringBuilder();
            for (int leg = 0; leg < 20; leg++) {
                legs.append("leg ").append((char) ('a' + leg)).append(' ').append(turn * 90).append(" 99 99 dropped 9 at 50;");
            }
            ChainSurvey x = with(999, 999, legs.toString());
            checks.due("perimeter()", x.perimeter(), 23985680);
            checks.due("closingEast()", x.closingEast(), 20 * easts[turn]);
            checks.due("closingNorth()", x.closingNorth(), 20 * norths[turn]);
            checks.due("misclosure()", x.misclosure(), 23985680);
            checks.due("precision()", x.precision(), 1);
            checks.due("width()", x.width(), Math.abs(20 * easts[turn]));
            checks.due("height()", x.height(), Math.abs(20 * norths[turn]));
            checks.due("farthestStation()", x.farthestStation(), 20);
            checks.due("area()", x.area(), 0);
            checks.dueDouble("meanLeg()", x.meanLeg(), 1199284.0);
            x.setAdjusted(true);
            checks.due("the middle, adjusted", x.east(10) + " " + x.north(10), "0 0");
            checks.due("farthestStation(), adjusted", x.farthestStation(), 0);
        }
        StringBuilder square = new StringBuilder();
        for (int leg = 0; leg < 20; leg++) {
            square.append("leg ").append((char) ('a' + leg)).append(' ').append(leg / 5 * 90).append(" 99 99 dropped 9 at 50;");
        }
        ChainSurvey x = with(999, 999, square.toString());
        checks.due("the area of a square", x.area(), 5996420L * 5996420L);
        checks.due("its width", x.width(), 5996420);
        checks.due("its misclosure", x.misclosure(), 0);
    }
}
