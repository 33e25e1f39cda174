/** Promises 4 to 7: load, play, errorCode and errorOffset. In a wrong text, ^ stands before the wrong token. */
public final class TextTest {
    private static final Checks checks = new Checks();
    private static final String HEAD = "survey 0 100;";

    public static void main(String[] args) {
        rightSetups();
        rightScripts();
        errorsAreReportedOfTheLatestText();
        wrongHeads();
        wrongCommands();
        rangesOfNumbers();
        unknownAndDuplicateNames();
        tooManyLegs();
        impossibleCommands();
        aFailedTextHasNoEffect();
        checks.finish();
    }

    private static void wrong(String marked, boolean isSetup, int code) {
        int offset = marked.indexOf('^');
        checks.dueError(marked.substring(0, offset) + marked.substring(offset + 1), isSetup, code, offset);
    }

    private static void wrongSetup(int code, String... marked) {
        for (String text : marked) {
            wrong(text, true, code);
        }
    }

    private static void wrongScript(int code, String... marked) {
        for (String text : marked) {
            wrong(text, false, code);
            wrong(HEAD + "leg oak 90 4 0;bog reed 180 130;" + text, true, code);
        }
    }

    private static void right(String setup, int legs, String state) {
        ChainSurvey x = new ChainSurvey();
        checks.due("load " + setup, Checks.load(x, setup), legs);
        checks.due("errorCode()", x.errorCode(), 0);
        checks.due("errorOffset()", x.errorOffset(), -1);
        checks.due("undoableChanges()", x.undoableChanges(), 1);
        checks.due("state after " + setup, Checks.stateOf(x), state);
        x.undo();
        checks.due("state after undo()", Checks.stateOf(x), Checks.stateOf(new ChainSurvey()));
    }

    private static void rightSetups() {
        right("survey 0 100;", 0, "0 100 false");
        right("survey 999 999;", 0, "999 999 false");
        right("  survey  0000000000000000000000999   00100  ;  ", 0, "999 100 false");
        right("survey0 100;leg a0 1 2;", 1, "0 100 false; a 0 false 1 0 10200 10200 10200");
        right("survey 0 100;adjust;", 0, "0 100 true");
        right("survey 0 100;adjust;raw;", 0, "0 100 false");
        right("survey 0 100;wear 5;pace 200;", 0, "5 200 false");
        right("survey 0 100;leg a 345 99 99 dropped 9;", 1, "0 100 false; a 345 false 99 9 1089900 1089900 1089900");
        right("survey 0 100;leg a 15 1 0 at 50;", 1, "0 100 false; a 15 false 1 0 10000 10004 10004");
        right("survey 0 100;leg a 15 1 0 rise 60;", 1, "0 100 false; a 15 false 1 0 10000 10000 8000");
        right("survey 0 100;leg a 15 0 0 dropped1rise60at50;", 1, "0 100 false; a 15 false 0 1 10000 10004 8004");
        right("survey 0 100;bog a 15 999;", 1, "0 100 false; a 15 true 0 0 99900 99900 99900");
        right("survey 0 100;bog a 0 1;back;bog a 0 2;", 1, "0 100 false; a 0 true 0 0 200 200 200");
        right("survey 0 100;leg a 0 1 0;drop a;drop a;found a;", 1, "0 100 false; a 0 false 1 1 20000 20000 20000");
        right("survey 0 100;leg leg 0 1 0;bog at 0 1;drop leg;", 2,
                "0 100 false; leg 0 false 1 1 20000 20000 20000; at 0 true 0 0 100 100 100");
        right("survey 0 100;leg drop 0 0 0;drop drop;leg found 0 0 0;leg rise 0 0 0;leg survey 0 0 0;found drop;", 4,
                "0 100 false; drop 0 false 0 0 0 0 0; found 0 false 0 0 0 0 0; rise 0 false 0 0 0 0 0; survey 0 false 0 0 0 0 0");
        right("survey 0 100;leg abcdef 0 0 0;leg abcde 0 0 0;leg z 0 0 0;", 3,
                "0 100 false; abcdef 0 false 0 0 0 0 0; abcde 0 false 0 0 0 0 0; z 0 false 0 0 0 0 0");
    }

    private static void rightScripts() {
        ChainSurvey x = new ChainSurvey();
        checks.due("play of nothing", x.play(), 0);
        checks.due("undoableChanges()", x.undoableChanges(), 1);
        checks.due("play", Checks.play(x, "raw;drop oak;back;wear 1;pace 101;leg reed 0 1 1;bog qe 15 3;"), 7);
        checks.due("undoableChanges()", x.undoableChanges(), 2);
        checks.due("state", Checks.stateOf(x), "1 101 false; oak 90 false 4 1 50000 50005 50005;"
                + " mill 0 false 3 1 40000 40004 40004; barn 270 false 4 0 40500 40508 40508;"
                + " reed 0 false 1 0 10100 10101 10101; qe 15 true 0 0 303 303 303");
        checks.due("play found", Checks.play(x, " found oak ; adjust ; "), 2);
        checks.due("droppedPins(0)", x.droppedPins(0), 0);
        checks.due("isAdjusted()", x.isAdjusted(), true);
        checks.due("undo()", x.undo(), 2);
        checks.due("undo()", x.undo(), 1);
        checks.due("state", Checks.stateOf(x), Checks.stateOf(new ChainSurvey()));
    }

    private static void errorsAreReportedOfTheLatestText() {
        ChainSurvey x = new ChainSurvey();
        checks.due("play", Checks.play(x, "raw;wear 1000;"), -1);
        checks.due("errorCode()", x.errorCode(), 2);
        checks.due("errorOffset()", x.errorOffset(), 9);
        x.setWear(3);
        x.undo();
        checks.due("errorCode() after undo()", x.errorCode(), 2);
        checks.due("load", Checks.load(x, ""), -1);
        checks.due("errorCode()", x.errorCode(), 1);
        checks.due("errorOffset()", x.errorOffset(), 0);
        checks.due("play", Checks.play(x, "raw;"), 1);
        checks.due("errorCode()", x.errorCode(), 0);
        checks.due("errorOffset()", x.errorOffset(), -1);
        checks.due("play", Checks.play(x, "drop tree;"), -1);
        checks.due("load", Checks.load(x, HEAD), 0);
        checks.due("errorCode()", x.errorCode(), 0);
        checks.due("errorOffset()", x.errorOffset(), -1);
    }

    private static void wrongHeads() {
        wrongSetup(1, "^", "   ^", "^surve 0 100;", "^surveys 0 100;", "^leg a 0 1 1;", "^0 100;", "^;", "^Survey 0 100;",
                "survey^", "survey ^", "survey ^wear 1;", "survey ^;", "survey 0^", "survey 0 ^;", "survey 0 ^x",
                "survey 0 100^", "survey 0 100  ^", "survey 0 100 ^1;", "survey 0 100 ^leg", "survey 0 100 ^-1;",
                "survey ^-1 100;", "survey^\t0 100;", "survey 0^\u00a0100;", "survey 0^,100;", "survey 0 100;^;",
                "survey 0 100;^survey 0 100;");
        wrongSetup(2, "survey ^1000 100;", "survey 0 ^99;", "survey 0 ^1000;", "survey 0 ^0", "survey ^99999999999999999999 100;",
                "survey ^4294967296 100;", "survey ^18446744073709551616 100;", "survey ^00001000x");
    }

    private static void wrongCommands() {
        wrongScript(1, "^;", "^5;", "^legs a 0 1 1;", "^keg a 0 1 1;", "^fog a 0 1;", "leg a 0 1 1 ^ot 5;", "^le", "^rise 5;", "^at;", "^survey 0 100;", "^dropped;", "raw;^;",
                "raw^", "raw ^raw;", "raw ^5;", "adjust^", "adjust ^x;", "back^", "back ^back;", "back^.;",
                "wear^", "wear^;", "wear ^x;", "wear 5^", "wear 5 ^5;", "pace^", "pace^;", "pace 200^", "pace 200^leg;",
                "drop^", "drop ^5;", "drop^;", "drop ^abcdefg;", "drop oak^", "drop oak ^oak;", "drop reed^", "drop reed ^x;",
                "found ^abcdefg;", "found^;", "found oak^", "found oak^5;", "^dropoa;",
                "leg^", "leg^;", "leg ^5;", "leg ^abcdefg 0 1 1;", "leg a^", "leg a^;", "leg a ^b;", "leg a 0^", "leg a 0 ^x;",
                "leg a 0 1^", "leg a 0 1^;", "leg a 0 1 1^", "leg a 0 1 1 ^1;", "leg a 0 1 1 ^x;", "leg a 0 1 1 ^drop 1;",
                "leg a 0 1 1 dropped^", "leg a 0 1 1 dropped^;", "leg a 0 1 1 dropped ^rise 1;", "leg a 0 1 1 dropped 1 ^dropped 1;",
                "leg a 0 1 1 rise^;", "leg a 0 1 1 rise 1 ^dropped 1;", "leg a 0 1 1 rise 1 ^rise 1;", "leg a 0 1 1 at^;",
                "leg a 0 1 1 at 1 ^rise 1;", "leg a 0 1 1 at 1 ^at 1;", "leg a 0 1 1 at 1 ^dropped 1;", "leg a 0 1 1 at 1^",
                "leg a 0 1 1 at 1 ^1;", "leg a 0 1 1 dropped 1 ^1;", "leg a 0 ^-1 1;", "leg a 0 1^,1;", "leg a^A 0 1 1;",
                "bog^", "bog^;", "bog ^1;", "bog ^abcdefg 0 1;", "bog a^", "bog a ^b;", "bog a 0^", "bog a 0^;", "bog a 0 1^",
                "bog a 0 1 ^1;", "bog a 0 1 ^at 1;", "bog a 0 1 ^dropped 1;", "raw; ^\u00ff", "raw;^\n", "raw;^{", "raw;^`", "raw;^/", "raw;^:");
    }

    private static void rangesOfNumbers() {
        wrongScript(2, "wear ^1000;", "wear ^1000", "pace ^99;", "pace ^1000;", "leg a ^1 1 1;", "leg a ^346 1 1;", "leg a ^360 1 1;",
                "leg a ^14 x", "leg a ^375 1 1;", "leg a 0 ^100 1;", "leg a 0 1 ^100;", "leg a 0 1 1 dropped ^10;",
                "leg a 0 1 1 rise ^10000;", "leg a 0 1 1 at ^51;", "leg a 0 1 1 at ^000051;", "bog a ^7 1;", "bog a ^360 1;",
                "bog a 0 ^0;", "bog a 0 ^1000;", "bog a 0 ^0000", "leg a ^4294967296 1 1;", "leg a 0 ^4294967297 1;");
        right("survey 0 100;leg a 345 99 99 dropped 9 rise 9999 at 50;", 1, "0 100 false; a 345 false 99 9 1089900 1090357 434831");
        right("survey 0 100;leg a 0 0 0 dropped 0 rise 0 at 0;", 1, "0 100 false; a 0 false 0 0 0 0 0");
        right("survey 0 100;wear 999;wear 0;pace 100;pace 999;bog a 0 1;bog b 345 999;", 2,
                "0 999 false; a 0 true 0 0 999 999 999; b 345 true 0 0 998001 998001 998001");
    }

    private static void unknownAndDuplicateNames() {
        wrongScript(3, "drop ^a;", "drop ^oaks;", "drop ^a 5", "found ^a;", "found ^o", "drop ^drop;", "back;back;drop ^reed;");
        wrongScript(4, "leg ^oak 0 1 1;", "leg ^oak", "bog ^oak 0 1;", "leg ^reed 7 1 1;", "leg x 0 1 1;bog ^x 0 1;");
        checks.due("a name that is free again", Checks.play(new ChainSurvey(), "back;leg reed 0 1 1;"), 2);
        checks.due("a name of the state that is replaced", Checks.load(new ChainSurvey(), HEAD + "leg oak 0 1 1;"), 1);
        wrong(HEAD + "drop ^oak;", true, 3);
    }

    private static void tooManyLegs() {
        StringBuilder twenty = new StringBuilder(HEAD);
        for (char letter = 'a'; letter < 'a' + 20; letter++) {
            twenty.append("bog ").append(letter).append(" 0 1;");
        }
        ChainSurvey x = new ChainSurvey();
        checks.due("load of 20 legs", Checks.load(x, twenty.toString()), 20);
        checks.due("stationCount()", x.stationCount(), 21);
        wrongSetup(5, twenty + "^leg z 0 1 1;", twenty + "^bog z 0 1;", twenty + "^leg", twenty + "raw;^bog a", twenty + "^leg;");
        wrongSetup(1, twenty + "^legs;", twenty + "^bo");
        checks.due("20 legs after back", Checks.load(x, twenty + "back;leg z 0 1 1;"), 20);
        checks.due("play of a 21st leg", Checks.play(x, "adjust;leg y 0 1 1;"), -1);
        checks.due("errorCode()", x.errorCode(), 5);
        checks.due("errorOffset()", x.errorOffset(), 7);
    }

    private static void impossibleCommands() {
        wrongScript(6, "drop reed^;", "drop reed ^;", "found reed^;", "found oak^;",
                "drop oak;drop oak;drop oak;drop oak;drop oak;drop oak;drop oak;drop oak;drop oak;drop oak ^;",
                "drop oak;found oak;found oak^;", "leg a 0 0 0 dropped 9;drop a^;", "bog a 0 1;drop a^;");
        wrong("back;back;back;back;back^;", false, 6);
        wrong(HEAD + "back^;", true, 6);
        wrong(HEAD + "bog a 0 1;back;back ^;", true, 6);
    }

    private static void aFailedTextHasNoEffect() {
        ChainSurvey x = new ChainSurvey();
        x.save(0);
        x.writeStations();
        String output = Checks.output(x);
        x.setWear(1);
        checks.due("load", Checks.load(x, "survey 7 777;leg a 0 1 1;adjust"), -1);
        checks.due("play", Checks.play(x, "wear 9;pace 900;raw;back;drop oak;"), 5);
        checks.due("play", Checks.play(x, "wear 8;pace 800;adjust;back;drop oak"), -1);
        checks.due("wear()", x.wear(), 9);
        checks.due("pace()", x.pace(), 900);
        checks.due("isAdjusted()", x.isAdjusted(), false);
        checks.due("legCount()", x.legCount(), 3);
        checks.due("droppedPins(0)", x.droppedPins(0), 1);
        checks.due("undoableChanges()", x.undoableChanges(), 2);
        checks.due("output", Checks.output(x), output);
        checks.due("load keeps the saved states", Checks.load(x, HEAD), 0);
        checks.due("restore(0)", x.restore(0), 4);
    }
}
