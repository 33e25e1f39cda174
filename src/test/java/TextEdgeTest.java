import java.util.ArrayList;
import java.util.List;

/** The edges of promises 2 to 7 and 36 and of "Texts"; in a wrong text, ^ stands before the wrong token. */
public final class TextEdgeTest {
    private static final Checks checks = new Checks();
    private static final String HEAD = "survey 0 100;";
    /** 2 to the 32nd and 2 to the 64th, as a text, for numbers that would wrap around. */
    private static final java.math.BigInteger WRAP_INT = java.math.BigInteger.ONE.shiftLeft(32);
    private static final java.math.BigInteger WRAP_LONG = java.math.BigInteger.ONE.shiftLeft(64);

    public static void main(String[] args) {
        everyByteOfAppendStandsInItsPlace();
        theBufferHolds900();
        whatIsCutIsGone();
        bothEmptyTheBufferInAnyCase();
        theLeastAndTheLongestSetup();
        theLeastAndTheLongestScript();
        theReportFollowsTheLatestText();
        aFailedTextIsNoChange();
        aRightTextLeavesTheRest();
        everyByteBehindAWord();
        spacesMayStandAnywhere();
        spacesAreNeededOnlyBetweenLikes();
        namesOfOneToSixLetters();
        theTextEndsTooEarly();
        aTokenThatIsNotAllowed();
        everyRangeOfNumbers();
        everyBearing();
        whatIsNotGiven();
        theLowestCodeIsReported();
        theFirstWrongTokenIsReported();
        aCommandIsExecutedAtItsSemicolon();
        findLegTakesTheWholeBuffer();
        checks.finish();
    }

    // ---- helpers

    private static ChainSurvey small() {
        return Checks.loaded(HEAD + "leg oak 90 4 0;bog reed 180 130;leg nine 0 0 0 dropped 9;");
    }

    private static ChainSurvey twenty() {
        return Probes.loaded(20);
    }

    private static void wrong(Probes.Making making, boolean isSetup, int code, String marked) {
        ChainSurvey x = making.make();
        int offset = marked.indexOf('^');
        Checks.feed(x, marked.substring(0, offset) + marked.substring(offset + 1));
        String what = (isSetup ? "load " : "play ") + marked;
        checks.due(what, isSetup ? x.load() : x.play(), -1);
        checks.due(what + ": errorCode()", x.errorCode(), code);
        checks.due(what + ": errorOffset()", x.errorOffset(), offset);
    }

    private static void wrongScript(int code, String... marked) {
        for (String text : marked) {
            wrong(TextEdgeTest::small, false, code, text);
        }
    }

    private static ChainSurvey played(String text, int commands) {
        ChainSurvey x = small();
        checks.due("play " + text, Checks.play(x, text), commands);
        checks.due("errorCode() of " + text, x.errorCode(), 0);
        checks.due("errorOffset() of " + text, x.errorOffset(), -1);
        return x;
    }

    // ---- promises 2 to 7

    /** "The four bytes of each parameter, the most significant byte first." */
    private static void everyByteOfAppendStandsInItsPlace() {
        for (int place = 0; place < 20; place++) {
            for (int value : new int[] {0, 1, 127, 128, 255}) {
                int[] words = {0x20202020, 0x20202020, 0x20202020, 0x20202020, 0x20202020};
                int shift = 24 - place % 4 * 8;
                words[place / 4] = words[place / 4] & ~(255 << shift) | value << shift;
                ChainSurvey x = new ChainSurvey();
                checks.due("append", x.append(words[0], words[1], words[2], words[3], words[4]), 20);
                checks.due("play() of byte " + value + " at " + place, x.play(), -1);
                checks.due("errorOffset()", x.errorOffset(), place);
            }
        }
        ChainSurvey x = new ChainSurvey();
        // "wear", " 12;", "pace", " 345", ";raw" and ";" with spaces.
        x.append(0x77656172, 0x2031323b, 0x70616365, 0x20333435, 0x3b726177);
        x.append(0x3b202020, 0x20202020, 0x20202020, 0x20202020, 0x20202020);
        checks.due("play()", x.play(), 3);
        checks.due("state", x.wear() + " " + x.pace() + " " + x.isAdjusted(), "12 345 false");
    }

    /** "The input buffer holds at most 900 bytes." */
    private static void theBufferHolds900() {
        ChainSurvey x = new ChainSurvey();
        Checks.feed(x, " ".repeat(880));
        checks.due("append to 900", x.append(0x77656172, 0x373b7061, 0x63653232, 0x323b7261, 0x773b2020), 900);
        checks.due("append to 920", x.append(0, 0, 0, 0, 0), -1);
        checks.due("play() of 900 bytes", x.play(), 3);
        checks.due("state", x.wear() + " " + x.pace() + " " + x.isAdjusted(), "7 222 false");
        checks.due("append to the emptied buffer", x.append(0, 0, 0, 0, 0), 20);
    }

    /** "Shortens the input buffer": what was behind the new length does not come back. */
    private static void whatIsCutIsGone() {
        ChainSurvey x = new ChainSurvey();
        checks.due("truncateInput(0) of 0", x.truncateInput(0), 0);
        Checks.feed(x, "raw;wear 7;adjust;;;");
        checks.due("truncateInput(20) of 20", x.truncateInput(20), 20);
        checks.due("truncateInput(11)", x.truncateInput(11), 11);
        checks.due("truncateInput(11) again", x.truncateInput(11), 11);
        checks.due("play()", x.play(), 2);
        checks.due("isAdjusted()", x.isAdjusted(), false);
        Checks.feed(x, "wear 99;");
        x.truncateInput(6);
        Checks.feed(x, ";");
        checks.due("play()", x.play(), 1);
        checks.due("wear()", x.wear(), 9);
        Checks.feed(x, "raw;");
        checks.due("truncateInput(0)", x.truncateInput(0), 0);
        checks.due("play() of the cut buffer", x.play(), 0);
        // The token at the new end goes no further, whatever stood behind it: a digit, a letter, a space, a semicolon.
        dueCut("pace 123", "4;", 1, 8);
        dueCut("raw;raw", "x;", 1, 7);
        dueCut("raw;ra", "w;", 1, 4);
        dueCut("wear 1000", ";", 2, 5);
        dueCut("raw;wear 7", " ;", 1, 10);
        dueCut("raw;wear 7 ", ";", 1, 11);
        dueCut("drop oa", "k;", 3, 5);
        dueCut("raw ", "    ;", 1, 4);
        dueCut("raw", ";", 1, 3);
        ChainSurvey y = new ChainSurvey();
        Checks.feed(y, "oaks");
        y.truncateInput(3);
        checks.due("findLeg() of the cut buffer", y.findLeg(), 0);
        y.truncateInput(2);
        checks.due("findLeg() of the cut buffer", y.findLeg(), -1);
    }

    private static void dueCut(String text, String cut, int code, int offset) {
        ChainSurvey x = new ChainSurvey();
        Checks.feed(x, text + cut);
        checks.due("truncateInput", x.truncateInput(text.length()), text.length());
        checks.due("play() of " + text + ", cut before " + cut, x.play(), -1);
        checks.due("errorCode()", x.errorCode(), code);
        checks.due("errorOffset()", x.errorOffset(), offset);
    }

    /** "Empties the buffer in any case." */
    private static void bothEmptyTheBufferInAnyCase() {
        String[] texts = {"", "raw;", HEAD, "raw", "x", " ".repeat(900), "survey 1000 100;"};
        for (String text : texts) {
            ChainSurvey x = new ChainSurvey();
            Checks.load(x, text);
            checks.due("the length after load of " + text.trim(), Probes.lengthOfBuffer(x), 0);
            checks.due("play() of nothing", x.play(), 0);
            Checks.play(x, text);
            checks.due("the length after play of " + text.trim(), Probes.lengthOfBuffer(x), 0);
            checks.due("load() of nothing", x.load(), -1);
            checks.due("the length after load() of nothing", Probes.lengthOfBuffer(x), 0);
        }
    }

    /** "Before the first command there is no leg, and the survey is not adjusted." */
    private static void theLeastAndTheLongestSetup() {
        ChainSurvey x = new ChainSurvey();
        checks.due("load of the least setup", Checks.load(x, "survey0 100;"), 0);
        checks.due("state", Checks.stateOf(x), "0 100 false");
        checks.due("undoableChanges()", x.undoableChanges(), 1);
        checks.due("load of the same setup", Checks.load(x, "survey0 100;"), 0);
        checks.due("a change without an effect", x.undoableChanges(), 2);
        String head = "survey 999 999;" + "wear 998;".repeat(97);
        checks.due("bytes", head.length(), 888);
        checks.due("load of 900 bytes", Checks.load(x, head + "bog q 345 9;"), 1);
        checks.due("state", Checks.stateOf(x), "998 999 false; q 345 true 0 0 8991 8991 8991");
        ChainSurvey full = twenty();
        checks.due("load over 20 legs", Checks.load(full, HEAD + "leg xa 0 1 0;"), 1);
        checks.due("state", Checks.stateOf(full), "0 100 false; xa 0 false 1 0 10000 10000 10000");
        checks.due("undo()", full.undo(), 1);
        checks.due("legCount()", full.legCount(), 20);
    }

    /** "The commands are executed one after the other as a single change (also if there is none)." */
    private static void theLeastAndTheLongestScript() {
        for (String none : new String[] {"", " ", " ".repeat(900)}) {
            ChainSurvey x = played(none, 0);
            checks.due("state", Checks.stateOf(x), Checks.stateOf(small()));
            checks.due("undoableChanges()", x.undoableChanges(), 2);
            checks.due("undo()", x.undo(), 1);
            checks.due("state", Checks.stateOf(x), Checks.stateOf(small()));
        }
        ChainSurvey x = played("raw;".repeat(225), 225);
        checks.due("undoableChanges()", x.undoableChanges(), 2);
        ChainSurvey y = played("adjust;drop oak;drop oak;found oak;drop oak;" + "wear 1;wear 2;".repeat(61), 127);
        checks.due("state", Checks.stateOf(y), Checks.stateOf(played("adjust;drop oak;drop oak;wear 2;", 4)));
        checks.due("undo()", y.undo(), 1);
        checks.due("state", Checks.stateOf(y), Checks.stateOf(small()));
        wrongScript(1, "raw;".repeat(224) + "raw ^", "raw;".repeat(224) + "raw^");
        wrongScript(1, " ".repeat(899) + "^r", " ".repeat(897) + "raw^", "raw" + " ".repeat(897) + "^");
        wrong(ChainSurvey::new, true, 1, " ".repeat(900) + "^");
        wrong(ChainSurvey::new, true, 1, "^" + "s".repeat(900));
    }

    /** Promises 6 and 7: the latest call of load() or play(), no other call. */
    private static void theReportFollowsTheLatestText() {
        String[] marked = {"^x", "wear ^1000;", "drop ^elm;", "leg ^oak 0 1 1;", "^leg", "drop reed^;"};
        for (int code = 1; code <= 6; code++) {
            Probes.Making making = code == 5 ? TextEdgeTest::twenty : TextEdgeTest::small;
            wrong(making, false, code, marked[code - 1]);
            ChainSurvey x = making.make();
            int offset = marked[code - 1].indexOf('^');
            Checks.play(x, marked[code - 1].replace("^", ""));
            x.setWear(1);
            x.undo();
            x.save(0);
            x.restore(0);
            x.removeLast();
            x.append(0, 0, 0, 0, 0);
            x.truncateInput(0);
            x.findLeg();
            x.writeStations();
            checks.due("errorCode() after other calls", x.errorCode(), code);
            checks.due("errorOffset() after other calls", x.errorOffset(), offset);
            boolean isSetup = code % 2 == 0;
            checks.due("a right text", isSetup ? Checks.load(x, HEAD) : x.play(), 0);
            checks.due("errorCode() after a right text", x.errorCode(), 0);
            checks.due("errorOffset() after a right text", x.errorOffset(), -1);
        }
    }

    /** "With an error the state does not change (commands before the error have no effect)." */
    private static void aFailedTextIsNoChange() {
        String[] before = {"wear 77;", "pace 777;", "adjust;", "raw;", "back;", "leg new 0 1 1;", "bog new 0 1;", "drop none;", "found full;"};
        String[] ends = {"x", "wear 1000;", "drop elm;", "leg fen 0 1 1;", "drop fen;", "back"};
        for (String first : before) {
            for (String end : ends) {
                Probes.dueSame(checks, "play " + first + end, Probes::busy, x -> failed(x, first + end, false), Probes.BUFFER, Probes.REPORT);
            }
        }
        String[] setups = {"", "survey", "survey 77", "survey 77 777", "survey 77 99;", HEAD + "adjust;leg fen 0 1 1;x", HEAD + "back;"};
        for (String setup : setups) {
            Probes.dueSame(checks, "load " + setup, Probes::busy, x -> failed(x, setup, true), Probes.BUFFER, Probes.REPORT);
            Probes.dueSame(checks, "load " + setup, Probes::full, x -> failed(x, setup, true), Probes.BUFFER, Probes.REPORT);
        }
    }

    private static void failed(ChainSurvey x, String text, boolean isSetup) {
        x.truncateInput(0);
        Checks.feed(x, text);
        checks.due("the answer of " + text, isSetup ? x.load() : x.play(), -1);
    }

    /** "load() keeps the saved states", and the output is nobody's but writeStations()'s. */
    private static void aRightTextLeavesTheRest() {
        Probes.dueSame(checks, "load", Probes::busy, x -> right(x, HEAD + "leg a 0 1 1;", true), Probes.BUFFER, Probes.REPORT, Probes.STATE, Probes.CHANGES);
        Probes.dueSame(checks, "play", Probes::busy, x -> right(x, "back;back;back;wear 1;pace 100;", false),
                Probes.BUFFER, Probes.REPORT, Probes.STATE, Probes.CHANGES);
        Probes.dueSame(checks, "play of nothing", Probes::busy, x -> right(x, "", false), Probes.BUFFER, Probes.REPORT, Probes.CHANGES);
    }

    private static void right(ChainSurvey x, String text, boolean isSetup) {
        x.truncateInput(0);
        Checks.feed(x, text);
        checks.due("an error in " + text, (isSetup ? x.load() : x.play()) < 0, false);
    }

    // ---- tokens

    /** "The byte belongs to no token": all but a to z, the digits, the semicolon and the space. */
    private static void everyByteBehindAWord() {
        for (int sign = 0; sign < 256; sign++) {
            boolean isLetter = sign >= 'a' && sign <= 'z';
            if (sign == ' ') {
                played("raw ;", 1);
                played("raw; raw;", 2);
                continue;
            }
            wrongScript(1, "raw;^" + (char) sign);
            wrongScript(1, isLetter ? "^raw" + (char) sign + ";" : sign == ';' ? "raw;^;;" : "raw^" + (char) sign + ";");
            wrongScript(1, "^" + (char) sign + "raw;");
            if (sign != ';' && !(sign >= '0' && sign <= '9')) {
                wrongScript(1, "wear 5^" + (char) sign + ";", "wear ^" + (char) sign + "5;");
            }
        }
    }

    /** "Spaces may stand before and after every token." */
    private static void spacesMayStandAnywhere() {
        String[] tokens = {"leg", "elm", "15", "1", "2", "dropped", "3", "rise", "4", "at", "5", ";", "drop", "elm", ";", "found", "elm", ";",
            "wear", "6", ";", "pace", "107", ";", "bog", "fen", "30", "8", ";", "adjust", ";", "raw", ";", "back", ";"};
        String due = Checks.stateOf(played(String.join(" ", tokens), 9));
        String spread = "  " + String.join("    ", tokens) + "   ";
        checks.due("state of spread tokens", Checks.stateOf(played(spread, 9)), due);
        for (int i = 0; i <= tokens.length; i++) {
            String before = String.join(" ", java.util.Arrays.copyOf(tokens, i));
            String behind = String.join(" ", java.util.Arrays.copyOfRange(tokens, i, tokens.length));
            checks.due("state with many spaces", Checks.stateOf(played(before + " ".repeat(700) + behind, 9)), due);
        }
        ChainSurvey x = new ChainSurvey();
        checks.due("a spread setup", Checks.load(x, "   survey   7   107   ;   leg   elm   15   1   2   ;   "), 1);
        checks.due("state", Checks.stateOf(x), "7 107 false; elm 15 false 1 0 10200 10207 10207");
    }

    /** "They are needed only between two words and between two numbers." */
    private static void spacesAreNeededOnlyBetweenLikes() {
        String due = Checks.stateOf(played("leg elm 15 1 2 dropped 3 rise 4 at 5; drop elm; wear 6; pace 107; bog fen 30 8; adjust;", 6));
        checks.due("state without spaces", Checks.stateOf(played("leg elm15 1 2dropped3rise4at5;drop elm;wear6;pace107;bog fen30 8;adjust;", 6)), due);
        checks.due("load without spaces", Checks.load(new ChainSurvey(), "survey7 107;leg a0 1 2;"), 1);
        wrongScript(1, "^legelm 15 1 2;", "leg elm 15 12^;", "^dropoak;", "^foundoak;", "leg elm 15 1 2 ^droppedrise 3;", "^adjustraw;", "bog fen 30^;");
        wrongScript(2, "leg elm ^151 2;", "bog fen ^308;", "leg elm ^1512;");
        wrong(ChainSurvey::new, true, 1, "survey 107^;");
        wrong(ChainSurvey::new, true, 2, "survey ^7107;");
        wrong(ChainSurvey::new, true, 1, "^surveys 7 107;");
    }

    /** "A name is a word of 1 to 6 letters; keywords may be used as names." */
    private static void namesOfOneToSixLetters() {
        String[] names = {"a", "z", "az", "zz", "aaa", "zzzz", "aaaaa", "aaaaaa", "zzzzzz", "abcdef", "uvwxyz",
            "survey", "leg", "bog", "drop", "found", "wear", "pace", "adjust", "raw", "back", "rise", "at"};
        for (String name : names) {
            ChainSurvey x = played("leg " + name + " 0 1 1;drop " + name + ";drop " + name + ";found " + name + ";", 4);
            checks.due("the name", Checks.nameOf(x, 3), name);
            checks.due("its dropped pins", x.droppedPins(3), 1);
            checks.due("the bog leg", Checks.nameOf(played("bog " + name + " 0 1;", 1), 3), name);
            wrongScript(3, "drop ^" + name + ";", "found ^" + name + ";");
            wrongScript(4, "leg " + name + " 0 1 1;bog ^" + name + " 0 1;", "bog " + name + " 0 1;leg ^" + name + " 0 1 1;");
            checks.due("load", Checks.load(new ChainSurvey(), HEAD + "bog " + name + " 0 1;"), 1);
        }
        String[] tooLong = {"dropped", "aaaaaaa", "zzzzzzz", "abcdefg", "oakoakoak", "a".repeat(33), "b".repeat(800)};
        for (String name : tooLong) {
            wrongScript(1, "leg ^" + name + " 0 1 1;", "bog ^" + name + " 0 1;", "drop ^" + name + ";", "found ^" + name + ";", "leg ^" + name);
        }
        // The seventh letter makes it another word, whatever the first six are.
        Probes.Making six = () -> played("leg abcdef 0 1 1;", 1);
        wrong(six, false, 1, "drop ^abcdefa;");
        wrong(six, false, 1, "drop ^aabcdef;");
        wrong(six, false, 3, "drop ^abcde;");
        wrong(six, false, 3, "drop ^bcdef;");
    }

    // ---- error codes

    private static final String[] WHOLE = {"survey", "7", "107", ";", "leg", "elm", "15", "1", "2", "dropped", "3", "rise", "4", "at", "5", ";",
        "drop", "elm", ";", "found", "elm", ";", "wear", "6", ";", "pace", "107", ";", "bog", "fen", "30", "8", ";", "adjust", ";", "raw", ";", "back", ";"};
    private static final int HEAD_TOKENS = 4;

    /** "Or the length of the text if the text ends too early." */
    private static void theTextEndsTooEarly() {
        for (int count = 0; count < WHOLE.length; count++) {
            String setup = String.join(" ", java.util.Arrays.copyOf(WHOLE, count));
            boolean isSetupRight = count > 0 && WHOLE[count - 1].equals(";");
            for (String end : new String[] {"", " ", "     "}) {
                if (!isSetupRight) {
                    wrong(ChainSurvey::new, true, 1, setup + end + "^");
                }
                if (count > HEAD_TOKENS && !isSetupRight) {
                    wrong(TextEdgeTest::small, false, 1, setup.substring("survey 7 107 ;".length()) + end + "^");
                }
            }
        }
        for (String part : new String[] {"leg a 0 1 1 at 1", "leg a 0 1 1 rise 1", "leg a 0 1 1 dropped 1", "leg a 0 1 1", "leg a 0 1 1 rise", "leg a 0 1 1 at"}) {
            wrongScript(1, part + "^", part + "  ^");
        }
    }

    /** "The token is not allowed there": each kind of token in each place where it is none that may stand. */
    private static void aTokenThatIsNotAllowed() {
        for (int place = 0; place < WHOLE.length; place++) {
            String before = String.join(" ", java.util.Arrays.copyOf(WHOLE, place));
            String gap = place == 0 ? "" : " ";
            for (String token : notAllowedInsteadOf(place)) {
                wrong(ChainSurvey::new, true, 1, before + gap + "^" + token);
                wrong(ChainSurvey::new, true, 1, before + gap + "^" + token + " ;");
                if (place >= HEAD_TOKENS) {
                    wrong(TextEdgeTest::small, false, 1, (before + gap).substring("survey 7 107 ; ".length()) + "^" + token + " ;");
                }
            }
        }
    }

    private static List<String> notAllowedInsteadOf(int place) {
        List<String> tokens = new ArrayList<>(List.of("$", "-", "elm", "oakoaks", "surveys", "survey", "leg", "bog", "back", "5", "99999", ";", "dropped", "rise", "at"));
        String due = WHOLE[place];
        if (due.matches("[0-9]+")) {
            tokens.removeAll(List.of("5", "99999"));
        } else if (due.matches("elm|fen")) {
            tokens.removeAll(List.of("elm", "survey", "leg", "bog", "back", "rise", "at"));
        } else if (due.matches("dropped|rise|at")) {
            // Behind the links any part may follow, behind the dropped pins the later ones, and always the end.
            tokens.removeAll(List.of(";", "at"));
            tokens.removeAll(due.equals("dropped") ? List.of("dropped", "rise") : due.equals("rise") ? List.of("rise") : List.of());
        } else if (due.equals(";")) {
            tokens.remove(";");
        } else if (place == 0) {
            tokens.remove("survey");
        } else {
            tokens.removeAll(List.of("leg", "bog", "back"));
        }
        return tokens;
    }

    private record Range(String before, int least, int greatest, String behind) {
    }

    private static final Range[] RANGES = {new Range("survey ", 0, 999, " 100;"), new Range("survey 0 ", 100, 999, ";"),
        new Range(HEAD + "wear ", 0, 999, ";"), new Range(HEAD + "pace ", 100, 999, ";"),
        new Range(HEAD + "leg a 0 ", 0, 99, " 1;"), new Range(HEAD + "leg a 0 1 ", 0, 99, ";"),
        new Range(HEAD + "leg a 0 1 1 dropped ", 0, 9, ";"), new Range(HEAD + "leg a 0 1 1 rise ", 0, 9999, ";"),
        new Range(HEAD + "leg a 0 1 1 dropped 1 rise ", 0, 9999, ";"), new Range(HEAD + "leg a 0 1 1 at ", 0, 50, ";"),
        new Range(HEAD + "leg a 0 1 1 rise 1 at ", 0, 50, ";"), new Range(HEAD + "bog a 0 ", 1, 999, ";")};

    /** Code 2: the ranges of the document, numbers that would wrap around, and leading zeros. */
    private static void everyRangeOfNumbers() {
        for (Range range : RANGES) {
            for (int number : new int[] {range.least, range.least + 1, range.greatest - 1, range.greatest}) {
                for (String zeros : new String[] {"", "0", "000000000000", "0".repeat(800)}) {
                    String text = range.before + zeros + number + range.behind;
                    checks.due("errors of " + text, Checks.load(new ChainSurvey(), text) < 0, false);
                }
            }
            List<String> wrong = new ArrayList<>(List.of("" + (range.greatest + 1), "0" + (range.greatest + 1), "0".repeat(800) + (range.greatest + 1),
                    "2147483647", "2147483648", "9223372036854775807", "9223372036854775808", "9".repeat(800), "1" + "0".repeat(800)));
            for (int number : new int[] {range.least, range.greatest}) {
                java.math.BigInteger right = java.math.BigInteger.valueOf(number);
                wrong.add(WRAP_INT.add(right).toString());
                wrong.add(WRAP_LONG.add(right).toString());
                wrong.add(right.add(java.math.BigInteger.valueOf(65536)).toString());
                wrong.add(right.add(java.math.BigInteger.valueOf(1000000)).toString());
                wrong.add(right.add(java.math.BigInteger.TEN.pow(30)).toString());
            }
            if (range.least > 0) {
                wrong.addAll(List.of("" + (range.least - 1), "0", "000", "00000" + (range.least - 1)));
            }
            for (String number : wrong) {
                wrong(ChainSurvey::new, true, 2, range.before + "^" + number + range.behind);
                wrong(ChainSurvey::new, true, 2, range.before + "^" + number);
                wrong(ChainSurvey::new, true, 2, range.before + "^" + number + "$");
            }
        }
        ChainSurvey x = Checks.loaded("survey 00000000999 000100;leg a 0000345 00099 099 dropped 0009 rise 00000 at 00050;bog b 0015 00999;");
        checks.due("state", Checks.stateOf(x), "999 100 false; a 345 false 99 9 1089900 1199284 1199284; b 15 true 0 0 99900 99900 99900");
    }

    /** "A bearing from 0 to 345 degrees that is a multiple of 15": in texts and in methods. */
    private static void everyBearing() {
        for (int bearing = -360; bearing <= 720; bearing++) {
            boolean isRight = bearing >= 0 && bearing <= 345 && bearing % 15 == 0;
            int degrees = bearing;
            for (String kind : new String[] {"leg a ^# 1 1;", "bog a ^# 1;"}) {
                String marked = kind.replace("#", "" + bearing);
                if (isRight) {
                    checks.due("the bearing", played(marked.replace("^", ""), 1).bearing(3), bearing);
                } else {
                    wrongScript(bearing < 0 ? 1 : 2, marked);
                }
            }
            ChainSurvey x = small();
            if (isRight) {
                checks.due("addLeg", x.addLeg(bearing, 1, 1, 1, 1), 3);
                checks.due("addBog", x.addBog(bearing, 1), 4);
                checks.due("the bearings", x.bearing(3) + x.bearing(4), bearing + bearing);
            } else {
                checks.dueThrow("addLeg(" + bearing + ")", Checks.ARGUMENT, () -> x.addLeg(degrees, 1, 1, 1, 1));
                checks.dueThrow("addBog(" + bearing + ")", Checks.ARGUMENT, () -> x.addBog(degrees, 1));
            }
        }
        for (String wrap : new String[] {"4294967296", "4294967311", "4294967641", "18446744073709551616", "18446744073709551631", "2147483640", "150000000000"}) {
            wrongScript(2, "leg a ^" + wrap + " 1 1;", "bog a ^" + wrap + " 1;");
        }
    }

    /** "What is not given in leg is 0 dropped pins, a rise of 0 and a temperature of 15." */
    private static void whatIsNotGiven() {
        String[] texts = {"", "dropped 0", "rise 0", "at 15", "dropped 0 rise 0", "dropped 0 at 15", "rise 0 at 15", "dropped 0 rise 0 at 15"};
        String due = "100 100 false; a 0 false 90 0 908000 917080 917080";
        for (String text : texts) {
            checks.due("state of " + text, Checks.stateOf(Checks.loaded("survey 100 100;leg a 0 90 80 " + text + ";")), due);
        }
        checks.due("14 degrees", Checks.loaded("survey 100 100;leg a 0 90 80 at 14;").slopeLength(0), 917069);
        checks.due("16 degrees", Checks.loaded("survey 100 100;leg a 0 90 80 at 16;").slopeLength(0), 917091);
        // What one leg is given does not stay for the next one.
        ChainSurvey two = Checks.loaded("survey 100 100;leg a 0 90 80 dropped 9 rise 9 at 9;leg b 0 90 80;");
        checks.due("the next leg", two.droppedPins(1) + " " + two.slopeLength(1) + " " + two.horizontalLength(1), "0 917080 917080");
    }

    /** "If several error codes apply to a token, the lowest code is reported." */
    private static void theLowestCodeIsReported() {
        // 1 and 2: a number that is in no range, where no number may stand.
        wrongScript(1, "raw ^1000;", "^99999;", "drop ^99999;", "leg ^99999 0 1 1;", "wear 1 ^99999;", "leg a 0 1 1 ^99999;", "bog a 0 1 ^99999;");
        // 1 and 3: a word that is too long, and no leg has it.
        wrongScript(1, "drop ^abcdefg;", "found ^dropped;");
        // 1 and 6: no semicolon, where it would not be possible.
        wrongScript(1, "drop reed ^x", "drop reed^", "drop nine ^5;", "found oak ^oak;", "found oak^", "found reed^$");
        wrong(Probes::empty, false, 1, "back ^5;");
        wrong(Probes::empty, false, 1, "back^");
        // 1 and 5: the words that are no command are no new leg.
        wrong(TextEdgeTest::twenty, false, 1, "^legs a 0 1 1;");
        wrong(TextEdgeTest::twenty, false, 1, "wear ^leg;");
        wrong(TextEdgeTest::twenty, false, 3, "drop ^leg;");
        wrong(TextEdgeTest::twenty, false, 1, "raw ^bog;");
        // 2 alone: beyond the range and no multiple of 15.
        wrongScript(2, "leg a ^361 1 1;", "bog a ^346 1;");
    }

    /** "Parsing stops at the first wrong token." */
    private static void theFirstWrongTokenIsReported() {
        wrongScript(2, "wear ^1000 $", "wear ^1000;$", "wear ^1000;drop elm;", "leg a ^7 100 100 dropped 10 rise 10000 at 51 x", "bog a ^7 1000;");
        wrongScript(2, "leg a 0 ^100 100;", "leg a 0 1 ^100 dropped 10;", "leg a 0 1 1 dropped ^10 rise 10000;", "leg a 0 1 1 rise ^10000 at 51;");
        wrongScript(3, "drop ^elm $", "drop ^elm;raw", "drop ^elm;wear 1000;");
        wrongScript(4, "leg ^oak 7 100", "bog ^oak 7 1000;", "leg ^reed $");
        wrongScript(6, "drop reed^;$", "drop reed^;drop elm;", "found oak ^;raw");
        wrong(TextEdgeTest::twenty, false, 5, "^leg $");
        wrong(TextEdgeTest::twenty, false, 5, "^leg xa 7 100;");
        wrong(TextEdgeTest::twenty, false, 5, "^bog abcdefg 0 1;");
        wrong(TextEdgeTest::twenty, false, 5, "^leg;");
        wrong(TextEdgeTest::twenty, false, 5, "^bog");
        wrong(TextEdgeTest::twenty, false, 5, "raw; ^leg 5");
        wrong(() -> Probes.loaded(19), false, 5, "leg z 0 1 1;^leg y 0 1 1;");
        wrong(() -> Probes.loaded(19), false, 5, "bog z 0 1;^bog y 0 1;");
        checks.due("a 20th leg", Checks.play(Probes.loaded(19), "leg z 0 1 1;"), 1);
        checks.due("a 20th bog leg", Checks.play(Probes.loaded(19), "bog z 0 1;"), 1);
    }

    /** "A command is executed when its semicolon has been read": the next one finds what it left. */
    private static void aCommandIsExecutedAtItsSemicolon() {
        wrongScript(3, "leg elm 0 1 1;back;drop ^elm;", "drop ^elm;leg elm 0 1 1;");
        wrongScript(4, "leg elm 0 1 1;leg ^elm 0 1 1;");
        wrongScript(6, "back;back;back;back^;", "drop oak;found oak;found oak^;", "found nine;drop nine;drop nine^;", "drop nine^;");
        played("found nine;drop nine;", 2);
        played("drop oak;".repeat(9), 9);
        wrongScript(6, "drop oak;".repeat(9) + "drop oak^;");
        played("back;back;back;", 3);
        wrong(Probes::empty, false, 6, "back^;");
        wrong(ChainSurvey::new, true, 6, HEAD + "back^;");
        wrong(ChainSurvey::new, true, 3, HEAD + "drop ^oak;");
        ChainSurvey x = twenty();
        checks.due("back makes room for a leg", Checks.play(x, "back;bog xt 0 1;back;leg xt 0 1 1;"), 4);
        checks.due("legCount()", x.legCount(), 20);
        wrong(TextEdgeTest::twenty, false, 5, "back;leg xt 0 1 1;^leg xu 0 1 1;");
        checks.due("twenty legs and all back", Checks.play(twenty(), "back;".repeat(20)), 20);
        wrong(TextEdgeTest::twenty, false, 6, "back;".repeat(20) + "back^;");
    }

    // ---- promise 36

    /** "The leg whose name is the whole input buffer. The buffer does not change." */
    private static void findLegTakesTheWholeBuffer() {
        String[] names = {"a", "abcdef", "bcdef", "zzzzzz", "ab"};
        StringBuilder setup = new StringBuilder(HEAD);
        for (String name : names) {
            setup.append("bog ").append(name).append(" 0 1;");
        }
        for (int leg = 0; leg < names.length; leg++) {
            String[] others = {" " + names[leg], names[leg] + " ", names[leg] + ";", names[leg] + "\0", "\0" + names[leg], names[leg] + "0", names[leg] + "x".repeat(7),
                names[leg].toUpperCase(), " ".repeat(900 - names[leg].length()) + names[leg], names[leg] + " ".repeat(900 - names[leg].length())};
            dueFound(setup.toString(), names[leg], leg);
            for (String other : others) {
                dueFound(setup.toString(), other, -1);
            }
        }
        dueFound(setup.toString(), "", -1);
        dueFound(HEAD, "", -1);
        dueFound(HEAD, "a", -1);
        dueFound(setup + "back;", "ab", -1);
        dueFound(setup + "back;bog b 0 1;", "b", 4);
    }

    private static void dueFound(String setup, String text, int leg) {
        ChainSurvey x = Checks.loaded(setup);
        Checks.feed(x, text);
        checks.due("findLeg() of " + text.trim(), x.findLeg(), leg);
        checks.due("findLeg() again", x.findLeg(), leg);
        checks.due("the length afterwards", Probes.lengthOfBuffer(x), text.length());
    }
}
