import java.math.BigInteger;
import java.util.ArrayDeque;
import java.util.ArrayList;
import java.util.Deque;
import java.util.List;
import java.util.regex.Matcher;
import java.util.regex.Pattern;

/**
 * A second, slow writing of the document, made of other parts than the program: immutable states,
 * lists of tokens, BigInteger and exceptions for errors. ModelTest compares the two.
 */
final class Model {
    record Leg(String name, int bearing, boolean bog, int paces, int pins, int links, int dropped, int rise, int heat) {
        Leg withDropped(int count) {
            return new Leg(name, bearing, bog, paces, pins, links, count, rise, heat);
        }
    }

    record State(List<Leg> legs, int wear, int pace, boolean adjusted) {
        State withLegs(List<Leg> other) {
            return new State(other, wear, pace, adjusted);
        }
    }

    private static final class TextError extends RuntimeException {
        final int code;
        final int place;

        TextError(int code, int place) {
            this.code = code;
            this.place = place;
        }
    }

    private record Token(String text, int place) {
        boolean isWord() {
            return text.matches("[a-z]+");
        }

        boolean isNumber() {
            return text.matches("[0-9]+");
        }
    }

    private State state;
    private final Deque<State> past = new ArrayDeque<>();
    private final State[] slots = new State[2];
    private String input = "";
    private String output = "";
    private int code = 0;
    private int place = -1;

    Model() {
        input = "survey 25 300; leg oak 90 4 0; leg mill 0 3 0 dropped 1; leg barn 270 4 5 at 25; bog reed 180 130; adjust;";
        load();
        past.clear();
    }

    // ---- input

    public int append(int a, int b, int c, int d, int e) {
        if (input.length() > 880) {
            return -1;
        }
        StringBuilder text = new StringBuilder(input);
        for (int word : new int[] {a, b, c, d, e}) {
            for (int i = 3; i >= 0; i--) {
                text.append((char) (Integer.toUnsignedLong(word) / (1L << 8 * i) % 256));
            }
        }
        input = text.toString();
        return input.length();
    }

    public int truncateInput(int length) {
        if (length < 0 || length > input.length()) {
            throw new IllegalArgumentException();
        }
        input = input.substring(0, length);
        return length;
    }

    public int load() {
        return read(true) < 0 ? -1 : state.legs.size();
    }

    public int play() {
        return read(false);
    }

    private int read(boolean isSetup) {
        List<Token> tokens = tokens();
        input = "";
        code = 0;
        place = -1;
        State before = state;
        int commands = 0;
        try {
            State made = state;
            if (isSetup) {
                word(tokens, "survey");
                int wear = number(tokens, 0, 999, 1);
                int pace = number(tokens, 100, 999, 1);
                word(tokens, ";");
                made = new State(List.of(), wear, pace, false);
            }
            for (; tokens.get(0).text.length() > 0; commands++) {
                made = command(tokens, made);
            }
            change(made);
            return commands;
        } catch (TextError e) {
            state = before;
            code = e.code;
            place = e.place;
            return -1;
        }
    }

    private List<Token> tokens() {
        List<Token> tokens = new ArrayList<>();
        Matcher matcher = Pattern.compile("[a-z]+|[0-9]+|[^ ]", Pattern.DOTALL).matcher(input);
        while (matcher.find()) {
            tokens.add(new Token(matcher.group(), matcher.start()));
        }
        tokens.add(new Token("", input.length()));
        return tokens;
    }

    private static void word(List<Token> tokens, String word) {
        if (!tokens.get(0).text.equals(word)) {
            throw new TextError(1, tokens.get(0).place);
        }
        tokens.remove(0);
    }

    private static int number(List<Token> tokens, int least, int greatest, int step) {
        Token token = tokens.get(0);
        if (!token.isNumber()) {
            throw new TextError(1, token.place);
        }
        BigInteger value = new BigInteger(token.text);
        boolean isRight = value.compareTo(BigInteger.valueOf(least)) >= 0 && value.compareTo(BigInteger.valueOf(greatest)) <= 0
                && value.mod(BigInteger.valueOf(step)).signum() == 0;
        if (!isRight) {
            throw new TextError(2, token.place);
        }
        tokens.remove(0);
        return value.intValue();
    }

    private static String name(List<Token> tokens, State made, boolean isNew) {
        Token token = tokens.get(0);
        if (!token.isWord() || token.text.length() > 6) {
            throw new TextError(1, token.place);
        }
        boolean isKnown = indexOf(made, token.text) >= 0;
        if (isKnown == isNew) {
            throw new TextError(isNew ? 4 : 3, token.place);
        }
        tokens.remove(0);
        return token.text;
    }

    private static int option(List<Token> tokens, String word, int greatest, int usual) {
        if (!tokens.get(0).text.equals(word)) {
            return usual;
        }
        tokens.remove(0);
        return number(tokens, 0, greatest, 1);
    }

    private static State command(List<Token> tokens, State made) {
        Token first = tokens.remove(0);
        State after = made;
        boolean isPossible = true;
        switch (first.text) {
            case "leg", "bog" -> {
                if (made.legs.size() == 20) {
                    throw new TextError(5, first.place);
                }
                String name = name(tokens, made, true);
                int bearing = number(tokens, 0, 345, 15);
                if (first.text.equals("bog")) {
                    after = plus(made, new Leg(name, bearing, true, number(tokens, 1, 999, 1), 0, 0, 0, 0, 15));
                } else {
                    int pins = number(tokens, 0, 99, 1);
                    int links = number(tokens, 0, 99, 1);
                    int dropped = option(tokens, "dropped", 9, 0);
                    int rise = option(tokens, "rise", 9999, 0);
                    int heat = option(tokens, "at", 50, 15);
                    after = plus(made, new Leg(name, bearing, false, 0, pins, links, dropped, rise, heat));
                }
            }
            case "drop", "found" -> {
                int leg = indexOf(made, name(tokens, made, false));
                isPossible = first.text.equals("drop") ? canDrop(made.legs.get(leg)) : made.legs.get(leg).dropped > 0;
                after = pinned(made, leg, first.text.equals("drop") ? 1 : -1);
            }
            case "wear" -> after = new State(made.legs, number(tokens, 0, 999, 1), made.pace, made.adjusted);
            case "pace" -> after = new State(made.legs, made.wear, number(tokens, 100, 999, 1), made.adjusted);
            case "adjust" -> after = new State(made.legs, made.wear, made.pace, true);
            case "raw" -> after = new State(made.legs, made.wear, made.pace, false);
            case "back" -> {
                isPossible = made.legs.size() > 0;
                after = isPossible ? made.withLegs(made.legs.subList(0, made.legs.size() - 1)) : made;
            }
            default -> throw new TextError(1, first.place);
        }
        int end = tokens.get(0).place;
        word(tokens, ";");
        if (!isPossible) {
            throw new TextError(6, end);
        }
        return after;
    }

    private static State plus(State made, Leg leg) {
        List<Leg> legs = new ArrayList<>(made.legs);
        legs.add(leg);
        return made.withLegs(legs);
    }

    private static State pinned(State made, int leg, int more) {
        List<Leg> legs = new ArrayList<>(made.legs);
        legs.set(leg, legs.get(leg).withDropped(legs.get(leg).dropped + more));
        return made.withLegs(legs);
    }

    private static boolean canDrop(Leg leg) {
        return !leg.bog && leg.dropped != 9;
    }

    private static int indexOf(State made, String name) {
        for (Leg leg : made.legs) {
            if (leg.name.equals(name)) {
                return made.legs.indexOf(leg);
            }
        }
        return -1;
    }

    public int errorCode() {
        return code;
    }

    public int errorOffset() {
        return place;
    }

    // ---- changes

    private void change(State after) {
        if (state != null) {
            past.addLast(state);
        }
        if (past.size() == 9) {
            past.removeFirst();
        }
        state = after;
    }

    private static void require(boolean isRight, RuntimeException otherwise) {
        if (!isRight) {
            throw otherwise;
        }
    }

    private static void requireRange(int value, int least, int greatest) {
        require(value >= least && value <= greatest, new IllegalArgumentException());
    }

    private Leg leg(int leg) {
        require(leg >= 0 && leg < state.legs.size(), new IndexOutOfBoundsException());
        return state.legs.get(leg);
    }

    private int add(Leg leg) {
        require(state.legs.size() < 20, new IllegalStateException());
        require(indexOf(state, leg.name) < 0, new IllegalStateException());
        change(plus(state, leg));
        return state.legs.size() - 1;
    }

    private String nextName() {
        return "q" + "abcdefghijklmnopqrstuvwxyz".charAt(state.legs.size());
    }

    private static void requireBearing(int bearing) {
        requireRange(bearing, 0, 345);
        require(bearing % 15 == 0, new IllegalArgumentException());
    }

    public int addLeg(int bearing, int pins, int links, int rise, int temperature) {
        requireBearing(bearing);
        requireRange(pins, 0, 99);
        requireRange(links, 0, 99);
        requireRange(rise, 0, 9999);
        requireRange(temperature, 0, 50);
        return add(new Leg(nextName(), bearing, false, 0, pins, links, 0, rise, temperature));
    }

    public int addBog(int bearing, int paces) {
        requireBearing(bearing);
        requireRange(paces, 1, 999);
        return add(new Leg(nextName(), bearing, true, paces, 0, 0, 0, 0, 15));
    }

    public int dropPin(int leg) {
        require(canDrop(leg(leg)), new IllegalStateException());
        change(pinned(state, leg, 1));
        return leg(leg).dropped;
    }

    public int findPin(int leg) {
        require(leg(leg).dropped > 0, new IllegalStateException());
        change(pinned(state, leg, -1));
        return leg(leg).dropped;
    }

    public int removeLast() {
        require(!state.legs.isEmpty(), new IllegalStateException());
        change(state.withLegs(state.legs.subList(0, state.legs.size() - 1)));
        return state.legs.size();
    }

    public int setWear(int wear) {
        requireRange(wear, 0, 999);
        int old = state.wear;
        change(new State(state.legs, wear, state.pace, state.adjusted));
        return old;
    }

    public int setPace(int pace) {
        requireRange(pace, 100, 999);
        int old = state.pace;
        change(new State(state.legs, state.wear, pace, state.adjusted));
        return old;
    }

    public boolean setAdjusted(boolean isAdjusted) {
        boolean old = state.adjusted;
        change(new State(state.legs, state.wear, state.pace, isAdjusted));
        return old;
    }

    public int undo() {
        require(!past.isEmpty(), new IllegalStateException());
        state = past.removeLast();
        return past.size();
    }

    public int save(int slot) {
        requireRange(slot, 0, 1);
        slots[slot] = state;
        return state.legs.size();
    }

    public int restore(int slot) {
        requireRange(slot, 0, 1);
        require(slots[slot] != null, new IllegalStateException());
        change(slots[slot]);
        return state.legs.size();
    }

    // ---- legs

    public int legCount() {
        return state.legs.size();
    }

    public int stationCount() {
        return state.legs.size() + 1;
    }

    public int wear() {
        return state.wear;
    }

    public int pace() {
        return state.pace;
    }

    public int undoableChanges() {
        return past.size();
    }

    public boolean isAdjusted() {
        return state.adjusted;
    }

    public int bearing(int leg) {
        return leg(leg).bearing;
    }

    public int pins(int leg) {
        return leg(leg).pins;
    }

    public int droppedPins(int leg) {
        return leg(leg).dropped;
    }

    private static BigInteger big(long number) {
        return BigInteger.valueOf(number);
    }

    /** BigInteger rounds the quotient to 0, as the document asks. */
    private static BigInteger divided(BigInteger number, long divisor) {
        return number.divide(big(divisor));
    }

    private static int root(BigInteger number) {
        return number.sqrt().intValueExact();
    }

    private static BigInteger read(State s, Leg leg) {
        return leg.bog ? big(leg.paces).multiply(big(s.pace)) : big(10000L * leg.pins + 10000L * leg.dropped + 100L * leg.links);
    }

    private static BigInteger slope(State s, Leg leg) {
        BigInteger length = read(s, leg);
        if (leg.bog) {
            return length;
        }
        length = length.add(divided(length.multiply(big(s.wear)), 10000));
        return length.add(divided(length.multiply(big(leg.heat - 15)).multiply(big(12)), 1000000));
    }

    private static BigInteger horizontal(State s, Leg leg) {
        BigInteger slope = slope(s, leg);
        BigInteger rise = big(leg.rise * 100L);
        if (leg.bog) {
            return slope;
        }
        return rise.compareTo(slope) > 0 ? big(0) : slope.pow(2).subtract(rise.pow(2)).sqrt();
    }

    private static BigInteger step(State s, Leg leg, boolean isEast) {
        double angle = Math.toRadians(leg.bearing);
        long ratio = Math.round(10000 * (isEast ? Math.sin(angle) : Math.cos(angle)));
        // 10000 times the sine of 15, 30 .. degrees, rounded to whole numbers, is the table of the document.
        return divided(horizontal(s, leg).multiply(big(ratio)), 10000);
    }

    private static BigInteger raw(State s, int station, boolean isEast) {
        BigInteger sum = big(0);
        for (Leg leg : s.legs.subList(0, station)) {
            sum = sum.add(step(s, leg, isEast));
        }
        return sum;
    }

    private static BigInteger run(State s, int station) {
        BigInteger sum = big(0);
        for (Leg leg : s.legs.subList(0, station)) {
            sum = sum.add(horizontal(s, leg));
        }
        return sum;
    }

    private static BigInteger coordinate(State s, int station, boolean isEast) {
        BigInteger whole = run(s, s.legs.size());
        BigInteger raw = raw(s, station, isEast);
        if (!s.adjusted || whole.signum() == 0) {
            return raw;
        }
        return raw.subtract(raw(s, s.legs.size(), isEast).multiply(run(s, station)).divide(whole));
    }

    private static int misclosure(State s) {
        return root(raw(s, s.legs.size(), true).pow(2).add(raw(s, s.legs.size(), false).pow(2)));
    }

    public int readLength(int leg) {
        return read(state, leg(leg)).intValueExact();
    }

    public int slopeLength(int leg) {
        return slope(state, leg(leg)).intValueExact();
    }

    public int horizontalLength(int leg) {
        return horizontal(state, leg(leg)).intValueExact();
    }

    public int eastStep(int leg) {
        return step(state, leg(leg), true).intValueExact();
    }

    public int northStep(int leg) {
        return step(state, leg(leg), false).intValueExact();
    }

    public int tallies(int leg) {
        return (leg(leg).pins + leg(leg).dropped) / 10;
    }

    public boolean isBog(int leg) {
        return leg(leg).bog;
    }

    public int nameByte(int leg, int index) {
        String name = leg(leg).name;
        return index >= 0 && index < name.length() ? name.charAt(index) : -1;
    }

    public int findLeg() {
        return indexOf(state, input);
    }

    // ---- stations

    private int station(int station) {
        require(station >= 0 && station <= state.legs.size(), new IndexOutOfBoundsException());
        return station;
    }

    public int rawEast(int station) {
        return raw(state, station(station), true).intValueExact();
    }

    public int rawNorth(int station) {
        return raw(state, station(station), false).intValueExact();
    }

    public int east(int station) {
        return coordinate(state, station(station), true).intValueExact();
    }

    public int north(int station) {
        return coordinate(state, station(station), false).intValueExact();
    }

    public int run(int station) {
        return run(state, station(station)).intValueExact();
    }

    public int distanceFromStart(int station) {
        return root(big(east(station)).pow(2).add(big(north(station)).pow(2)));
    }

    // ---- closing and area

    public int perimeter() {
        return run(state.legs.size());
    }

    public int closingEast() {
        return rawEast(state.legs.size());
    }

    public int closingNorth() {
        return rawNorth(state.legs.size());
    }

    public int misclosure() {
        return misclosure(state);
    }

    public int precision() {
        return misclosure() == 0 ? -1 : perimeter() / misclosure();
    }

    private int spread(boolean isEast) {
        List<Integer> all = new ArrayList<>();
        for (int station = 0; station <= state.legs.size(); station++) {
            all.add(coordinate(state, station, isEast).intValueExact());
        }
        return all.stream().max(Integer::compare).get() - all.stream().min(Integer::compare).get();
    }

    public int width() {
        return spread(true);
    }

    public int height() {
        return spread(false);
    }

    public int farthestStation() {
        int farthest = state.legs.size();
        for (int station = state.legs.size(); station >= 0; station--) {
            farthest = distanceFromStart(station) >= distanceFromStart(farthest) ? station : farthest;
        }
        return farthest;
    }

    public int longestLeg() {
        int longest = state.legs.size() - 1;
        for (int leg = longest; leg >= 0; leg--) {
            longest = horizontalLength(leg) >= horizontalLength(longest) ? leg : longest;
        }
        return longest;
    }

    public int bogLength() {
        return state.legs.stream().filter(Leg::bog).mapToInt(leg -> horizontal(state, leg).intValueExact()).sum();
    }

    public long area() {
        BigInteger sum = big(0);
        int count = state.legs.size() + 1;
        for (int i = 0; i < count; i++) {
            int next = (i + 1) % count;
            sum = sum.add(big(east(i)).multiply(big(north(next)))).subtract(big(east(next)).multiply(big(north(i))));
        }
        return sum.abs().shiftRight(1).longValueExact();
    }

    // ---- forecasts

    public int misclosureIfDropped(int leg) {
        return canDrop(leg(leg)) ? misclosure(pinned(state, leg, 1)) : -1;
    }

    public int suspectLeg() {
        int best = -1;
        int least = misclosure();
        for (int leg = 0; leg < state.legs.size(); leg++) {
            int forecast = misclosureIfDropped(leg);
            if (forecast >= 0 && forecast < least) {
                best = leg;
                least = forecast;
            }
        }
        return best;
    }

    public int bestPace() {
        if (state.legs.stream().noneMatch(Leg::bog)) {
            return -1;
        }
        int best = 999;
        int least = Integer.MAX_VALUE;
        for (int pace = 999; pace >= 100; pace--) {
            int forecast = misclosure(new State(state.legs, state.wear, pace, state.adjusted));
            if (forecast <= least) {
                best = pace;
                least = forecast;
            }
        }
        return best;
    }

    // ---- consistency and averages

    public int inconsistencies() {
        return 0;
    }

    public double meanLeg() {
        return state.legs.isEmpty() ? 0.0 : (double) perimeter() / (double) state.legs.size();
    }

    public float bogShare() {
        return perimeter() == 0 ? 0.0f : (float) bogLength() / (float) perimeter();
    }

    // ---- output

    public int writeStations() {
        List<String> parts = new ArrayList<>();
        for (int station = 0; station <= state.legs.size(); station++) {
            parts.add(east(station) + "," + north(station));
        }
        output = String.join(" ", parts);
        return output.length();
    }

    public int outputByte(int index) {
        return index >= 0 && index < output.length() ? output.charAt(index) : -1;
    }
}
