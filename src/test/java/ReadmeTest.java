import java.io.ByteArrayOutputStream;
import java.io.PrintStream;
import java.net.URL;
import java.net.URLClassLoader;
import java.nio.charset.StandardCharsets;
import java.nio.file.Files;
import java.nio.file.Path;
import java.util.ArrayList;
import java.util.Comparator;
import java.util.HashSet;
import java.util.List;
import java.util.Set;
import java.util.regex.Matcher;
import java.util.regex.Pattern;
import java.util.stream.Stream;
import javax.tools.JavaCompiler;
import javax.tools.ToolProvider;

/** README.md: its example prints what stands there, its tables are right, and it names what exists. */
public final class ReadmeTest {
    private static final Checks checks = new Checks();
    private static final String[] SUBJECTS = {"new ChainSurvey()", "append", "truncateInput", "load", "play", "errorCode", "errorOffset",
        "writeStations", "outputByte", "undo", "save", "restore", "findLeg"};

    public static void main(String[] args) throws Exception {
        String readme = Files.readString(Path.of("README.md"));
        exampleAnswers(readme);
        errorsAreAsInTheTable(readme);
        nameOnlyWhatExists(readme);
        for (String subject : SUBJECTS) {
            checks.note(readme.contains(subject), "README.md does not tell of " + subject);
        }
        checks.finish();
    }

    /** The first block of a kind behind a place, without its fences. */
    private static String block(String readme, String kind, int from) {
        int fence = readme.indexOf("```" + kind + "\n", from);
        int begin = fence + kind.length() + 4;
        int end = fence < 0 ? -1 : readme.indexOf("```", begin);
        return end < 0 ? "" : readme.substring(begin, end);
    }

    private static void exampleAnswers(String readme) throws Exception {
        int from = readme.indexOf("Example.java");
        String source = block(readme, "java", Math.max(from, 0));
        checks.note(from >= 0 && source.contains("class Example"), "README.md has no whole example");
        if (source.contains("class Example")) {
            int behind = readme.indexOf(source) + source.length();
            checks.due("the example of README.md", printedBy(source), block(readme, "text", behind));
        }
    }

    private static String printedBy(String source) throws Exception {
        Path room = Files.createTempDirectory("readme");
        PrintStream usual = System.out;
        ByteArrayOutputStream printed = new ByteArrayOutputStream();
        try {
            Path file = Files.writeString(room.resolve("Example.java"), source);
            JavaCompiler compiler = ToolProvider.getSystemJavaCompiler();
            String classes = System.getProperty("java.class.path");
            int status = compiler.run(null, null, null, "-Xlint:all", "-Werror", "-cp", classes, "-d", room.toString(), file.toString());
            checks.due("javac Example.java", status, 0);
            if (status == 0) {
                System.setOut(new PrintStream(printed, true, StandardCharsets.UTF_8));
                try (URLClassLoader loader = new URLClassLoader(new URL[] {room.toUri().toURL()})) {
                    loader.loadClass("Example").getMethod("main", String[].class).invoke(null, (Object) new String[0]);
                }
            }
        } finally {
            System.setOut(usual);
            sweep(room);
        }
        return printed.toString(StandardCharsets.UTF_8).replace(System.lineSeparator(), "\n");
    }

    private static void sweep(Path room) throws Exception {
        try (Stream<Path> paths = Files.walk(room)) {
            for (Path path : paths.sorted(Comparator.reverseOrder()).toList()) {
                Files.delete(path);
            }
        }
    }

    /** A row of the table: a code, a script, the offset of its error. Every code must have one. */
    private static void errorsAreAsInTheTable(String readme) {
        Matcher row = Pattern.compile("(?m)^\\| ([1-6]) \\|.*\\| `([^`]*)` \\| ([0-9]+) \\|$").matcher(readme);
        Set<String> codes = new HashSet<>();
        while (row.find()) {
            codes.add(row.group(1));
            checks.dueError(row.group(2), false, Integer.parseInt(row.group(1)), Integer.parseInt(row.group(3)));
        }
        checks.due("codes in the table of README.md", codes.size(), 6);
    }

    private static void nameOnlyWhatExists(String readme) {
        Set<String> methods = new HashSet<>();
        for (java.lang.reflect.Method method : ChainSurvey.class.getMethods()) {
            methods.add(method.getName());
        }
        Matcher call = Pattern.compile("`(\\w+)\\([^`]*\\)`").matcher(readme);
        while (call.find()) {
            checks.note(methods.contains(call.group(1)), "README.md names " + call.group() + ", which is not in the face");
        }
        for (String path : paths(readme)) {
            checks.note(Files.exists(Path.of(path)), "README.md names " + path + ", which does not exist");
        }
        for (String test : commandsFor(readme)) {
            checks.note(Files.exists(Path.of("src/test/java/" + test + ".java")), "README.md runs " + test + ", which does not exist");
        }
    }

    /** Without the shared tests, which come and go with the issues. */
    private static List<String> paths(String readme) {
        List<String> paths = new ArrayList<>();
        Matcher path = Pattern.compile("(?:\\.\\./shared|src|\\.ci)/(?!tests/)[\\w./]*\\w").matcher(readme);
        while (path.find()) {
            paths.add(path.group());
        }
        return paths;
    }

    private static List<String> commandsFor(String readme) {
        List<String> tests = new ArrayList<>();
        Matcher test = Pattern.compile("(?m)^java -cp out/tests (\\w+)$").matcher(readme);
        while (test.find()) {
            tests.add(test.group(1));
        }
        return tests;
    }
}
