/**
 * A traverse survey with a surveyor's chain: legs are measured with pins and links or estimated
 * by paces; the stations, the closing error and the area are computed from them.
 *
 * All rows are made in the constructors and used again, so that no later call makes an object.
 */
public final class ChainSurvey {
    public static final int NONE = -1;

    private static final int MAX_LEGS = 20;
    private static final int MAX_INPUT = 900;
    private static final int MAX_UNDO = 8;
    private static final int SLOTS = 2;
    /** 21 stations of two numbers of at most 11 signs, with their commas and spaces, are 503 bytes. */
    private static final int MAX_OUTPUT = 512;

    private static final int MAX_BEARING = 345;
    private static final int BEARING_STEP = 15;
    private static final int MAX_PINS = 99;
    private static final int MAX_LINKS = 99;
    private static final int MAX_DROPPED = 9;
    private static final int MAX_RISE = 9999;
    private static final int MAX_TEMPERATURE = 50;
    private static final int USUAL_TEMPERATURE = 15;
    private static final int MAX_PACES = 999;
    private static final int MAX_WEAR = 999;
    private static final int MIN_PACE = 100;
    private static final int MAX_PACE = 999;

    private static final int UNITS_OF_CHAIN = 10000;
    private static final int UNITS_OF_LINK = 100;
    private static final int PINS_OF_GANG = 10;
    private static final int FULL_RATIO = 10000;
    private static final int HEAT_FACTOR = 12;
    private static final int HEAT_DIVISOR = 1000000;

    /** The cosines of 0, 15, .. 90 degrees in ten-thousandths. */
    private static final int[] COSINES = {10000, 9659, 8660, 7071, 5000, 2588, 0};

    private static final int MAX_NAME = 6;
    /** A name is held as one number, five bits a letter (a is 1), so that no row of letters is needed. */
    private static final int LETTER_BITS = 5;
    private static final int LETTER_MASK = 31;
    private static final int LETTERS = 26;
    private static final int BEFORE_A = 'a' - 1;

    private static final int SYNTAX_ERROR = 1;
    private static final int OUT_OF_RANGE = 2;
    private static final int UNKNOWN_NAME = 3;
    private static final int DUPLICATE_NAME = 4;
    private static final int TOO_MANY = 5;
    private static final int NOT_POSSIBLE = 6;

    private static final int END = 0;
    private static final int WORD = 1;
    private static final int NUMBER = 2;
    private static final int SEMICOLON = 3;
    private static final int NO_TOKEN = 4;

    private static final String FIRST_SETUP = "survey 25 300; leg oak 90 4 0; leg mill 0 3 0 dropped 1; leg barn 270 4 5 at 25; bog reed 180 130; adjust;";

    private final Interpreter interpreter = new Interpreter();

    /** The interpreter owns this row and the draft, so that neither need be handed to it. */
    private final byte[] input = interpreter.lexer.text;
    private int inputLength;
    private int lastError;
    private int lastErrorOffset = NONE;

    private final byte[] output = new byte[MAX_OUTPUT];
    private int outputLength;

    private final Survey present = new Survey();
    /** Holds what a text or a forecast makes of the survey, so that the present one stays as it is. */
    private final Survey draft = interpreter.survey;
    private final Traverse traverse = new Traverse();

    /** A ring: the place of the next change comes round to the oldest one. */
    private final Survey[] past = new Survey[MAX_UNDO];
    private int nextPast;
    private int pastCount;

    private final Survey[] saved = new Survey[SLOTS];
    private final boolean[] isSaved = new boolean[SLOTS];

    public ChainSurvey() {
        for (int i = 0; i < MAX_UNDO; i++) {
            past[i] = new Survey();
        }
        for (int slot = 0; slot < SLOTS; slot++) {
            saved[slot] = new Survey();
        }
        for (int i = 0; i < FIRST_SETUP.length() && i < MAX_INPUT; i++) {
            input[i] = (byte) FIRST_SETUP.charAt(i);
        }
        interpreter.begin(FIRST_SETUP.length());
        if (interpreter.readsHead() && interpreter.readsCommands()) {
            present.copyFrom(draft);
        }
    }

    // ---- input

    public int append(int a, int b, int c, int d, int e) {
        if (inputLength + 20 > MAX_INPUT) {
            return NONE;
        }
        appendWord(a);
        appendWord(b);
        appendWord(c);
        appendWord(d);
        appendWord(e);
        return inputLength;
    }

    private void appendWord(int word) {
        for (int shift = 24; shift >= 0 && inputLength < MAX_INPUT; shift -= 8) {
            input[inputLength] = (byte) (word >> shift);
            inputLength++;
        }
    }

    public int truncateInput(int length) throws IllegalArgumentException {
        if (!isBetween(length, 0, inputLength)) {
            throw new IllegalArgumentException("the length is out of range");
        }
        inputLength = length;
        return inputLength;
    }

    public int load() {
        interpreter.begin(inputLength);
        boolean isRead = interpreter.readsHead() && interpreter.readsCommands();
        return settleText(isRead) ? present.legs : NONE;
    }

    public int play() {
        draft.copyFrom(present);
        interpreter.begin(inputLength);
        boolean isRead = interpreter.readsCommands();
        return settleText(isRead) ? interpreter.commands : NONE;
    }

    /** Takes over the draft if its text was read without an error, and reports the error otherwise. */
    private boolean settleText(boolean isRead) {
        inputLength = 0;
        lastError = interpreter.error;
        lastErrorOffset = interpreter.errorPlace;
        if (isRead) {
            remember();
            present.copyFrom(draft);
        }
        return isRead;
    }

    public int errorCode() {
        return lastError;
    }

    public int errorOffset() {
        return lastErrorOffset;
    }

    // ---- changes

    public int addLeg(int bearing, int pins, int links, int rise, int temperature)
            throws IllegalArgumentException, IllegalStateException {
        boolean isInRange = isBearing(bearing) && isBetween(pins, 0, MAX_PINS) && isBetween(links, 0, MAX_LINKS)
                && isBetween(rise, 0, MAX_RISE) && isBetween(temperature, 0, MAX_TEMPERATURE);
        if (!isInRange) {
            throw new IllegalArgumentException("a parameter of the leg is out of range");
        }
        int name = nameForNextLeg();
        remember();
        present.addChained(name, bearing, pins, links, 0, rise, temperature);
        return present.legs - 1;
    }

    public int addBog(int bearing, int paces) throws IllegalArgumentException, IllegalStateException {
        if (!isBearing(bearing) || !isBetween(paces, 1, MAX_PACES)) {
            throw new IllegalArgumentException("a parameter of the bog leg is out of range");
        }
        int name = nameForNextLeg();
        remember();
        present.addPaced(name, bearing, paces);
        return present.legs - 1;
    }

    private int nameForNextLeg() {
        if (present.legs >= MAX_LEGS) {
            throw new IllegalStateException("there are 20 legs");
        }
        int name = (('q' - BEFORE_A) << LETTER_BITS) + present.legs + 1;
        if (present.legNamed(name) != NONE) {
            throw new IllegalStateException("a leg has this name");
        }
        return name;
    }

    public int dropPin(int leg) throws IndexOutOfBoundsException, IllegalStateException {
        requireLeg(leg);
        if (!present.canDrop(leg)) {
            throw new IllegalStateException("no pin can be dropped on this leg");
        }
        remember();
        present.dropped[leg]++;
        return present.dropped[leg];
    }

    public int findPin(int leg) throws IndexOutOfBoundsException, IllegalStateException {
        requireLeg(leg);
        if (!present.canFind(leg)) {
            throw new IllegalStateException("the leg has no dropped pins");
        }
        remember();
        present.dropped[leg]--;
        return present.dropped[leg];
    }

    public int removeLast() throws IllegalStateException {
        if (present.legs == 0) {
            throw new IllegalStateException("there is no leg");
        }
        remember();
        present.legs--;
        return present.legs;
    }

    public int setWear(int wear) throws IllegalArgumentException {
        if (!isBetween(wear, 0, MAX_WEAR)) {
            throw new IllegalArgumentException("the wear is out of range");
        }
        int previous = present.wear;
        remember();
        present.wear = wear;
        return previous;
    }

    public int setPace(int pace) throws IllegalArgumentException {
        if (!isBetween(pace, MIN_PACE, MAX_PACE)) {
            throw new IllegalArgumentException("the pace is out of range");
        }
        int previous = present.pace;
        remember();
        present.pace = pace;
        return previous;
    }

    public boolean setAdjusted(boolean isAdjusted) {
        boolean previous = present.adjusted;
        remember();
        present.adjusted = isAdjusted;
        return previous;
    }

    public int undo() throws IllegalStateException {
        if (pastCount == 0) {
            throw new IllegalStateException("there is no change to undo");
        }
        nextPast = nextPast == 0 ? MAX_UNDO - 1 : nextPast - 1;
        pastCount--;
        present.copyFrom(past[nextPast]);
        return pastCount;
    }

    /** Keeps the present survey for undo; called once before each change. */
    private void remember() {
        past[nextPast].copyFrom(present);
        nextPast = nextPast == MAX_UNDO - 1 ? 0 : nextPast + 1;
        pastCount = Math.min(pastCount + 1, MAX_UNDO);
    }

    public int save(int slot) throws IllegalArgumentException {
        requireSlot(slot);
        saved[slot].copyFrom(present);
        isSaved[slot] = true;
        return present.legs;
    }

    public int restore(int slot) throws IllegalArgumentException, IllegalStateException {
        requireSlot(slot);
        if (!isSaved[slot]) {
            throw new IllegalStateException("nothing is saved in the slot");
        }
        remember();
        present.copyFrom(saved[slot]);
        return present.legs;
    }

    // ---- legs

    public int legCount() {
        return present.legs;
    }

    public int stationCount() {
        return present.legs + 1;
    }

    public int wear() {
        return present.wear;
    }

    public int pace() {
        return present.pace;
    }

    public int undoableChanges() {
        return pastCount;
    }

    public boolean isAdjusted() {
        return present.adjusted;
    }

    public int bearing(int leg) throws IndexOutOfBoundsException {
        requireLeg(leg);
        return present.bearings[leg];
    }

    public int pins(int leg) throws IndexOutOfBoundsException {
        requireLeg(leg);
        return present.pins[leg];
    }

    public int droppedPins(int leg) throws IndexOutOfBoundsException {
        requireLeg(leg);
        return present.dropped[leg];
    }

    public int readLength(int leg) throws IndexOutOfBoundsException {
        requireLeg(leg);
        return present.readUnits(leg);
    }

    public int slopeLength(int leg) throws IndexOutOfBoundsException {
        requireLeg(leg);
        return present.slopeUnits(leg);
    }

    public int horizontalLength(int leg) throws IndexOutOfBoundsException {
        requireLeg(leg);
        return present.horizontalUnits(leg);
    }

    public int eastStep(int leg) throws IndexOutOfBoundsException {
        requireLeg(leg);
        return stepOf(present.horizontalUnits(leg), sine(present.bearings[leg]));
    }

    public int northStep(int leg) throws IndexOutOfBoundsException {
        requireLeg(leg);
        return stepOf(present.horizontalUnits(leg), cosine(present.bearings[leg]));
    }

    public int tallies(int leg) throws IndexOutOfBoundsException {
        requireLeg(leg);
        return (present.pins[leg] + present.dropped[leg]) / PINS_OF_GANG;
    }

    public boolean isBog(int leg) throws IndexOutOfBoundsException {
        requireLeg(leg);
        return present.bogs[leg];
    }

    public int nameByte(int leg, int index) throws IndexOutOfBoundsException {
        requireLeg(leg);
        int name = present.names[leg];
        int length = nameLength(name);
        if (!isBetween(index, 0, length - 1)) {
            return NONE;
        }
        int shift = LETTER_BITS * (length - 1 - index);
        return BEFORE_A + ((name >> shift) & LETTER_MASK);
    }

    public int findLeg() {
        int name = packedName(input, 0, inputLength);
        return name == NONE ? NONE : present.legNamed(name);
    }

    // ---- stations

    public int rawEast(int station) throws IndexOutOfBoundsException {
        requireStation(station);
        return followed().rawEasts[station];
    }

    public int rawNorth(int station) throws IndexOutOfBoundsException {
        requireStation(station);
        return followed().rawNorths[station];
    }

    public int east(int station) throws IndexOutOfBoundsException {
        requireStation(station);
        return followed().easts[station];
    }

    public int north(int station) throws IndexOutOfBoundsException {
        requireStation(station);
        return followed().norths[station];
    }

    public int run(int station) throws IndexOutOfBoundsException {
        requireStation(station);
        return followed().runs[station];
    }

    public int distanceFromStart(int station) throws IndexOutOfBoundsException {
        requireStation(station);
        return followed().distanceOf(station);
    }

    // ---- closing and area

    public int perimeter() {
        return followed().totalRun();
    }

    public int closingEast() {
        return followed().endEast();
    }

    public int closingNorth() {
        return followed().endNorth();
    }

    public int misclosure() {
        return followed().closingDistance();
    }

    public int precision() {
        Traverse stations = followed();
        int distance = stations.closingDistance();
        return distance == 0 ? NONE : stations.totalRun() / distance;
    }

    public int width() {
        Traverse stations = followed();
        return spread(stations.easts, stations.legs + 1);
    }

    public int height() {
        Traverse stations = followed();
        return spread(stations.norths, stations.legs + 1);
    }

    public int farthestStation() {
        Traverse stations = followed();
        int farthest = 0;
        int greatest = 0;
        for (int station = 1; station <= stations.legs; station++) {
            int distance = stations.distanceOf(station);
            if (distance > greatest) {
                farthest = station;
                greatest = distance;
            }
        }
        return farthest;
    }

    public int longestLeg() {
        int longest = NONE;
        int greatest = NONE;
        for (int leg = 0; leg < present.legs; leg++) {
            int length = present.horizontalUnits(leg);
            if (length > greatest) {
                longest = leg;
                greatest = length;
            }
        }
        return longest;
    }

    public int bogLength() {
        int sum = 0;
        for (int leg = 0; leg < present.legs; leg++) {
            if (present.bogs[leg]) {
                sum += present.horizontalUnits(leg);
            }
        }
        return sum;
    }

    public long area() {
        return followed().enclosedArea();
    }

    // ---- forecasts; nothing changes

    public int misclosureIfDropped(int leg) throws IndexOutOfBoundsException {
        requireLeg(leg);
        return misclosureWithPin(leg);
    }

    public int suspectLeg() {
        int suspect = NONE;
        int least = followed().closingDistance();
        for (int leg = 0; leg < present.legs; leg++) {
            int forecast = misclosureWithPin(leg);
            if (forecast != NONE && forecast < least) {
                suspect = leg;
                least = forecast;
            }
        }
        return suspect;
    }

    private int misclosureWithPin(int leg) {
        if (!present.canDrop(leg)) {
            return NONE;
        }
        draft.copyFrom(present);
        draft.dropped[leg]++;
        traverse.follow(draft);
        return traverse.closingDistance();
    }

    public int bestPace() {
        if (!present.hasBog()) {
            return NONE;
        }
        int chainedEast = 0;
        int chainedNorth = 0;
        for (int leg = 0; leg < present.legs; leg++) {
            if (!present.bogs[leg]) {
                int length = present.horizontalUnits(leg);
                chainedEast += stepOf(length, sine(present.bearings[leg]));
                chainedNorth += stepOf(length, cosine(present.bearings[leg]));
            }
        }
        int best = MIN_PACE;
        int least = misclosureWithPace(chainedEast, chainedNorth, MIN_PACE);
        for (int pace = MIN_PACE + 1; pace <= MAX_PACE; pace++) {
            int forecast = misclosureWithPace(chainedEast, chainedNorth, pace);
            if (forecast < least) {
                best = pace;
                least = forecast;
            }
        }
        return best;
    }

    /** Takes the steps of the chained legs ready summed, as no pace changes them. */
    private int misclosureWithPace(int chainedEast, int chainedNorth, int pace) {
        int east = chainedEast;
        int north = chainedNorth;
        for (int leg = 0; leg < present.legs; leg++) {
            if (present.bogs[leg]) {
                int length = present.paces[leg] * pace;
                east += stepOf(length, sine(present.bearings[leg]));
                north += stepOf(length, cosine(present.bearings[leg]));
            }
        }
        return distance(east, north);
    }

    // ---- consistency and averages

    public int inconsistencies() {
        Traverse stations = followed();
        int sum = 0;
        if (present.adjusted && stations.totalRun() > 0) {
            sum += stations.easts[stations.legs] == 0 ? 0 : 1;
            sum += stations.norths[stations.legs] == 0 ? 0 : 1;
        }
        for (int leg = 0; leg < present.legs; leg++) {
            if (present.horizontalUnits(leg) > present.slopeUnits(leg)) {
                sum++;
            }
        }
        return sum;
    }

    public double meanLeg() {
        if (present.legs == 0) {
            return 0.0;
        }
        return (double) perimeter() / (double) present.legs;
    }

    public float bogShare() {
        int whole = perimeter();
        if (whole == 0) {
            return 0.0f;
        }
        return (float) bogLength() / (float) whole;
    }

    // ---- output

    public int writeStations() {
        Traverse stations = followed();
        outputLength = 0;
        for (int station = 0; station <= stations.legs; station++) {
            if (station > 0) {
                writeByte(' ');
            }
            writeNumber(stations.easts[station]);
            writeByte(',');
            writeNumber(stations.norths[station]);
        }
        return outputLength;
    }

    private void writeNumber(int number) {
        if (number < 0) {
            writeByte('-');
        }
        int size = Math.abs(number);
        for (int unit = 1000000000; unit > 0; unit /= 10) {
            if (size >= unit || unit == 1) {
                writeByte('0' + size / unit % 10);
            }
        }
    }

    private void writeByte(int value) {
        if (outputLength < MAX_OUTPUT) {
            output[outputLength] = (byte) value;
            outputLength++;
        }
    }

    public int outputByte(int index) {
        return isBetween(index, 0, outputLength - 1) ? output[index] : NONE;
    }

    // ---- helpers

    private void requireLeg(int leg) {
        if (!isBetween(leg, 0, present.legs - 1)) {
            throw new IndexOutOfBoundsException("the leg does not exist");
        }
    }

    private void requireStation(int station) {
        if (!isBetween(station, 0, present.legs)) {
            throw new IndexOutOfBoundsException("the station does not exist");
        }
    }

    private void requireSlot(int slot) {
        if (!isBetween(slot, 0, SLOTS - 1)) {
            throw new IllegalArgumentException("the slot is out of range");
        }
    }

    private Traverse followed() {
        traverse.follow(present);
        return traverse;
    }

    private static boolean isBetween(int value, int least, int greatest) {
        return value >= least && value <= greatest;
    }

    private static boolean isBearing(int degrees) {
        return isBetween(degrees, 0, MAX_BEARING) && degrees % BEARING_STEP == 0;
    }

    private static boolean isLetter(int sign) {
        return sign >= 'a' && sign <= 'z';
    }

    private static boolean isDigit(int sign) {
        return sign >= '0' && sign <= '9';
    }

    /** The cosine of a multiple of 15 degrees. */
    private static int cosine(int degrees) {
        int turn = Math.floorMod(degrees, 360);
        int angle = turn > 180 ? 360 - turn : turn;
        if (angle > 90) {
            return -COSINES[(180 - angle) / BEARING_STEP];
        }
        return COSINES[angle / BEARING_STEP];
    }

    private static int sine(int degrees) {
        return cosine(90 - degrees);
    }

    private static int stepOf(int length, int ratio) {
        return (int) ((long) length * ratio / FULL_RATIO);
    }

    private static int distance(int east, int north) {
        return root((long) east * east + (long) north * north);
    }

    /** The greatest int whose square is not greater than the number; 0 for a negative number. */
    private static int root(long number) {
        int found = 0;
        for (int bit = 1 << 30; bit > 0; bit >>= 1) {
            long trial = found | bit;
            if (trial * trial <= number) {
                found |= bit;
            }
        }
        return found;
    }

    private static int spread(int[] row, int count) {
        int least = 0;
        int greatest = 0;
        // Station 0 lies at 0, so that no coordinate is left out by beginning with 0.
        for (int i = 0; i < count && i < row.length; i++) {
            least = Math.min(least, row[i]);
            greatest = Math.max(greatest, row[i]);
        }
        return greatest - least;
    }

    /** The name that stands from start to end (without end); NONE if that is no name. */
    private static int packedName(byte[] text, int start, int end) {
        if (start >= end || end - start > MAX_NAME) {
            return NONE;
        }
        int name = 0;
        for (int i = start; i < end; i++) {
            int letter = text[i] - BEFORE_A;
            if (letter < 1 || letter > LETTERS) {
                return NONE;
            }
            name = (name << LETTER_BITS) + letter;
        }
        return name;
    }

    private static int nameLength(int name) {
        int length = 0;
        for (int rest = name; rest > 0; rest >>= LETTER_BITS) {
            length++;
        }
        return length;
    }

    /** What undo and restore bring back: the legs, the wear, the pace and whether it is adjusted. */
    private static final class Survey {
        final int[] names = new int[MAX_LEGS];
        final int[] bearings = new int[MAX_LEGS];
        final boolean[] bogs = new boolean[MAX_LEGS];
        final int[] paces = new int[MAX_LEGS];
        final int[] pins = new int[MAX_LEGS];
        final int[] links = new int[MAX_LEGS];
        final int[] dropped = new int[MAX_LEGS];
        final int[] rises = new int[MAX_LEGS];
        final int[] temperatures = new int[MAX_LEGS];
        /** Never more than MAX_LEGS: addChained() alone makes it greater. */
        int legs;
        int wear;
        int pace = MIN_PACE;
        boolean adjusted;

        void clear() {
            legs = 0;
            adjusted = false;
        }

        void copyFrom(Survey other) {
            legs = other.legs;
            wear = other.wear;
            pace = other.pace;
            adjusted = other.adjusted;
            for (int leg = 0; leg < MAX_LEGS; leg++) {
                names[leg] = other.names[leg];
                bearings[leg] = other.bearings[leg];
                bogs[leg] = other.bogs[leg];
                paces[leg] = other.paces[leg];
                pins[leg] = other.pins[leg];
                links[leg] = other.links[leg];
                dropped[leg] = other.dropped[leg];
                rises[leg] = other.rises[leg];
                temperatures[leg] = other.temperatures[leg];
            }
        }

        void addChained(int name, int bearing, int pinCount, int linkCount, int droppedCount, int rise, int temperature) {
            if (legs >= MAX_LEGS) {
                return;
            }
            names[legs] = name;
            bearings[legs] = bearing;
            bogs[legs] = false;
            paces[legs] = 0;
            pins[legs] = pinCount;
            links[legs] = linkCount;
            dropped[legs] = droppedCount;
            rises[legs] = rise;
            temperatures[legs] = temperature;
            legs++;
        }

        void addPaced(int name, int bearing, int paceCount) {
            if (legs >= MAX_LEGS) {
                return;
            }
            addChained(name, bearing, 0, 0, 0, 0, USUAL_TEMPERATURE);
            bogs[legs - 1] = true;
            paces[legs - 1] = paceCount;
        }

        boolean hasBog() {
            for (int leg = 0; leg < legs; leg++) {
                if (bogs[leg]) {
                    return true;
                }
            }
            return false;
        }

        int legNamed(int name) {
            for (int leg = 0; leg < legs; leg++) {
                if (names[leg] == name) {
                    return leg;
                }
            }
            return NONE;
        }

        boolean canDrop(int leg) {
            return !bogs[leg] && dropped[leg] < MAX_DROPPED;
        }

        boolean canFind(int leg) {
            return dropped[leg] > 0;
        }

        int readUnits(int leg) {
            if (bogs[leg]) {
                return paces[leg] * pace;
            }
            return (pins[leg] + dropped[leg]) * UNITS_OF_CHAIN + links[leg] * UNITS_OF_LINK;
        }

        int slopeUnits(int leg) {
            long length = readUnits(leg);
            if (!bogs[leg]) {
                length += length * wear / UNITS_OF_CHAIN;
                length += length * (temperatures[leg] - USUAL_TEMPERATURE) * HEAT_FACTOR / HEAT_DIVISOR;
            }
            return (int) length;
        }

        int horizontalUnits(int leg) {
            int slope = slopeUnits(leg);
            // No rise leaves the slope length as it is; so it is with every bog leg, whose rise is 0.
            if (rises[leg] == 0) {
                return slope;
            }
            long rise = rises[leg] * UNITS_OF_LINK;
            return rise > slope ? 0 : root((long) slope * slope - rise * rise);
        }
    }

    /** The stations of a survey, computed anew for each question into the same rows. */
    private static final class Traverse {
        final int[] runs = new int[MAX_LEGS + 1];
        final int[] rawEasts = new int[MAX_LEGS + 1];
        final int[] rawNorths = new int[MAX_LEGS + 1];
        final int[] easts = new int[MAX_LEGS + 1];
        final int[] norths = new int[MAX_LEGS + 1];
        int legs;

        void follow(Survey survey) {
            legs = survey.legs;
            for (int leg = 0; leg < legs; leg++) {
                int length = survey.horizontalUnits(leg);
                int bearing = survey.bearings[leg];
                runs[leg + 1] = runs[leg] + length;
                rawEasts[leg + 1] = rawEasts[leg] + stepOf(length, sine(bearing));
                rawNorths[leg + 1] = rawNorths[leg] + stepOf(length, cosine(bearing));
            }
            for (int station = 0; station <= legs; station++) {
                easts[station] = rawEasts[station];
                norths[station] = rawNorths[station];
                if (survey.adjusted) {
                    easts[station] -= shareAt(station, endEast());
                    norths[station] -= shareAt(station, endNorth());
                }
            }
        }

        /** The part of a closing error that falls to a station. */
        private int shareAt(int station, int closing) {
            int whole = totalRun();
            return whole == 0 ? 0 : (int) ((long) closing * runs[station] / whole);
        }

        int totalRun() {
            return runs[legs];
        }

        int endEast() {
            return rawEasts[legs];
        }

        int endNorth() {
            return rawNorths[legs];
        }

        int closingDistance() {
            return distance(endEast(), endNorth());
        }

        int distanceOf(int station) {
            return distance(easts[station], norths[station]);
        }

        /** The closing side adds nothing, as station 0 lies at 0, 0. */
        long enclosedArea() {
            long twice = 0;
            for (int leg = 0; leg < legs; leg++) {
                twice += (long) easts[leg] * norths[leg + 1] - (long) easts[leg + 1] * norths[leg];
            }
            return Math.abs(twice) / 2;
        }
    }

    /** Splits a text into tokens and holds one of them at a time. */
    private static final class Lexer {
        /** Above every range of the document; a longer run of digits counts no further. */
        private static final int TOO_GREAT = 1000000;

        final byte[] text = new byte[MAX_INPUT];
        int length;
        int kind;
        int start;
        int end;
        int number;

        void begin(int textLength) {
            length = Math.min(textLength, text.length);
            end = 0;
            advance();
        }

        void advance() {
            start = end;
            while (start < length && text[start] == ' ') {
                start++;
            }
            end = start;
            if (start >= length) {
                kind = END;
            } else if (isLetter(text[start])) {
                kind = WORD;
                while (end < length && isLetter(text[end])) {
                    end++;
                }
            } else if (isDigit(text[start])) {
                kind = NUMBER;
                number = 0;
                while (end < length && isDigit(text[end])) {
                    number = Math.min(number * 10 + text[end] - '0', TOO_GREAT);
                    end++;
                }
            } else {
                kind = text[start] == ';' ? SEMICOLON : NO_TOKEN;
                end++;
            }
        }

        boolean isAt(String word) {
            if (kind != WORD || end - start != word.length()) {
                return false;
            }
            for (int i = 0; i < word.length(); i++) {
                if (text[start + i] != word.charAt(i)) {
                    return false;
                }
            }
            return true;
        }
    }

    /**
     * Reads a text and executes its commands on a survey. What reads a part leaves the token behind
     * it, or notes the error at the token that is wrong there.
     */
    private static final class Interpreter {
        final Lexer lexer = new Lexer();
        final Survey survey = new Survey();
        int commands;
        int error;
        int errorPlace = NONE;

        void begin(int length) {
            error = 0;
            errorPlace = NONE;
            lexer.begin(length);
        }

        /** Answers false, as all that read a part do when it is wrong. */
        private boolean fail(int code) {
            error = code;
            errorPlace = lexer.start;
            return false;
        }

        boolean readsHead() {
            survey.clear();
            if (!lexer.isAt("survey")) {
                return fail(SYNTAX_ERROR);
            }
            lexer.advance();
            return readsWear() && readsPace() && readsSemicolon();
        }

        boolean readsCommands() {
            for (commands = 0; commands < MAX_INPUT && lexer.kind != END; commands++) {
                if (!readsCommand()) {
                    return false;
                }
            }
            return true;
        }

        private boolean readsCommand() {
            if (lexer.isAt("leg")) {
                return readsChained();
            }
            if (lexer.isAt("bog")) {
                return readsBog();
            }
            if (lexer.isAt("drop")) {
                return readsPin(true);
            }
            if (lexer.isAt("found")) {
                return readsPin(false);
            }
            if (lexer.isAt("wear")) {
                lexer.advance();
                return readsWear() && readsSemicolon();
            }
            if (lexer.isAt("pace")) {
                lexer.advance();
                return readsPace() && readsSemicolon();
            }
            if (lexer.isAt("adjust")) {
                return readsAdjusted(true);
            }
            if (lexer.isAt("raw")) {
                return readsAdjusted(false);
            }
            if (lexer.isAt("back")) {
                return readsBack();
            }
            return fail(SYNTAX_ERROR);
        }

        private boolean readsChained() {
            int name = newName();
            int bearing = name != NONE && mayTurnHere() ? numberHere(0, MAX_BEARING) : NONE;
            int pinCount = bearing == NONE ? NONE : numberHere(0, MAX_PINS);
            int linkCount = pinCount == NONE ? NONE : numberHere(0, MAX_LINKS);
            if (linkCount == NONE) {
                return false;
            }
            int droppedCount = passes("dropped") ? numberHere(0, MAX_DROPPED) : 0;
            if (droppedCount == NONE) {
                return false;
            }
            int rise = passes("rise") ? numberHere(0, MAX_RISE) : 0;
            if (rise == NONE) {
                return false;
            }
            int temperature = passes("at") ? numberHere(0, MAX_TEMPERATURE) : USUAL_TEMPERATURE;
            if (temperature == NONE || !readsSemicolon()) {
                return false;
            }
            survey.addChained(name, bearing, pinCount, linkCount, droppedCount, rise, temperature);
            return true;
        }

        private boolean readsBog() {
            int name = newName();
            int bearing = name != NONE && mayTurnHere() ? numberHere(0, MAX_BEARING) : NONE;
            int paceCount = bearing == NONE ? NONE : numberHere(1, MAX_PACES);
            if (paceCount == NONE || !readsSemicolon()) {
                return false;
            }
            survey.addPaced(name, bearing, paceCount);
            return true;
        }

        private boolean readsPin(boolean isDropped) {
            lexer.advance();
            int leg = legHere();
            if (leg == NONE) {
                return false;
            }
            if (lexer.kind == SEMICOLON && !(isDropped ? survey.canDrop(leg) : survey.canFind(leg))) {
                return fail(NOT_POSSIBLE);
            }
            if (!readsSemicolon()) {
                return false;
            }
            survey.dropped[leg] += isDropped ? 1 : -1;
            return true;
        }

        /** Sets the wear before the semicolon is read: a text that then fails leaves no trace anyway. */
        private boolean readsWear() {
            int wear = numberHere(0, MAX_WEAR);
            if (wear == NONE) {
                return false;
            }
            survey.wear = wear;
            return true;
        }

        private boolean readsPace() {
            int pace = numberHere(MIN_PACE, MAX_PACE);
            if (pace == NONE) {
                return false;
            }
            survey.pace = pace;
            return true;
        }

        private boolean readsAdjusted(boolean isAdjusted) {
            lexer.advance();
            survey.adjusted = isAdjusted;
            return readsSemicolon();
        }

        private boolean readsBack() {
            lexer.advance();
            if (lexer.kind == SEMICOLON && survey.legs == 0) {
                return fail(NOT_POSSIBLE);
            }
            if (!readsSemicolon()) {
                return false;
            }
            survey.legs--;
            return true;
        }

        private boolean readsSemicolon() {
            if (lexer.kind != SEMICOLON) {
                return fail(SYNTAX_ERROR);
            }
            lexer.advance();
            return true;
        }

        /** The name behind the word that begins a leg; NONE if it is wrong, or the word is. */
        private int newName() {
            if (survey.legs >= MAX_LEGS) {
                fail(TOO_MANY);
                return NONE;
            }
            lexer.advance();
            int name = nameHere();
            if (name != NONE && survey.legNamed(name) != NONE) {
                fail(DUPLICATE_NAME);
                return NONE;
            }
            if (name != NONE) {
                lexer.advance();
            }
            return name;
        }

        private int legHere() {
            int name = nameHere();
            if (name == NONE) {
                return NONE;
            }
            int leg = survey.legNamed(name);
            if (leg == NONE) {
                fail(UNKNOWN_NAME);
                return NONE;
            }
            lexer.advance();
            return leg;
        }

        /** Stays at the name, as an error of the name is still to be noted there. */
        private int nameHere() {
            int name = lexer.kind == WORD ? packedName(lexer.text, lexer.start, lexer.end) : NONE;
            if (name == NONE) {
                fail(SYNTAX_ERROR);
            }
            return name;
        }

        private boolean passes(String word) {
            if (!lexer.isAt(word)) {
                return false;
            }
            lexer.advance();
            return true;
        }

        /** Whether the token is no number, which numberHere() refuses, or a right bearing. */
        private boolean mayTurnHere() {
            return lexer.kind != NUMBER || isBearing(lexer.number) || fail(OUT_OF_RANGE);
        }

        private int numberHere(int least, int greatest) {
            if (lexer.kind != NUMBER) {
                fail(SYNTAX_ERROR);
                return NONE;
            }
            int number = lexer.number;
            if (!isBetween(number, least, greatest)) {
                fail(OUT_OF_RANGE);
                return NONE;
            }
            lexer.advance();
            return number;
        }
    }
}
