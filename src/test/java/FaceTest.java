import java.lang.reflect.Constructor;
import java.lang.reflect.Field;
import java.lang.reflect.Method;
import java.lang.reflect.Modifier;
import java.nio.file.Files;
import java.nio.file.Path;
import java.util.Arrays;
import java.util.HashSet;
import java.util.Set;

/** The public face of the document, and what LANGUAGE.md says of other members and of words. */
public final class FaceTest {
    private static final Checks checks = new Checks();
    private static final String DOCUMENT = "../shared/DOC.md";
    private static final String SOURCE = "src/main/java/ChainSurvey.java";

    public static void main(String[] args) throws Exception {
        Set<String> face = faceOfTheDocument();
        checks.due("signatures in the document", face.size(), 60);
        Set<String> publicNames = new HashSet<>();
        for (Method method : ChainSurvey.class.getDeclaredMethods()) {
            if (!method.isSynthetic() && !Modifier.isPrivate(method.getModifiers())) {
                String signature = signatureOf(method);
                checks.note(face.remove(signature), "not in the document: " + signature);
                publicNames.add(method.getName());
            }
        }
        checks.note(face.isEmpty(), "not in the class: " + face);
        otherMembers(publicNames);
        sourceKeepsToTheLanguage();
        checks.finish();
    }

    private static Set<String> faceOfTheDocument() throws Exception {
        Set<String> face = new HashSet<>();
        boolean isInFace = false;
        for (String line : Files.readAllLines(Path.of(DOCUMENT))) {
            isInFace = isInFace ? !line.equals("}") : line.equals("public final class ChainSurvey {");
            if (isInFace && line.contains("(") && !line.contains("public ChainSurvey()")) {
                String signature = line.trim().replace("public ", "").replace(";", "");
                face.add(signature.replaceAll("(int|boolean|long) \\w+(?=[,)])", "$1"));
            }
        }
        return face;
    }

    private static String signatureOf(Method method) {
        StringBuilder text = new StringBuilder(method.getReturnType().getName() + " " + method.getName() + "(");
        String comma = "";
        for (Class<?> type : method.getParameterTypes()) {
            text.append(comma).append(type.getName());
            comma = ", ";
        }
        text.append(')');
        String between = " throws ";
        for (Class<?> type : method.getExceptionTypes()) {
            text.append(between).append(type.getSimpleName());
            between = ", ";
        }
        return text.toString();
    }

    private static void otherMembers(Set<String> publicNames) {
        Class<?> program = ChainSurvey.class;
        checks.due("the class is public and final", program.getModifiers(), Modifier.PUBLIC | Modifier.FINAL);
        Constructor<?>[] constructors = program.getDeclaredConstructors();
        checks.due("constructors", constructors.length, 1);
        checks.due("its parameters", constructors[0].getParameterCount(), 0);
        checks.note(Modifier.isPublic(constructors[0].getModifiers()), "the constructor is not public");
        for (Field field : program.getDeclaredFields()) {
            boolean isConstant = field.getName().equals("NONE");
            int due = Modifier.PUBLIC | Modifier.STATIC | Modifier.FINAL;
            checks.note(isConstant ? field.getModifiers() == due : Modifier.isPrivate(field.getModifiers()), field + " stands open");
        }
        for (Class<?> inner : program.getDeclaredClasses()) {
            checks.note(Modifier.isStatic(inner.getModifiers()) && !Modifier.isPublic(inner.getModifiers()), inner + " is not static or is public");
            for (Method method : inner.getDeclaredMethods()) {
                checks.note(!publicNames.contains(method.getName()), method + " bears the name of a public method");
            }
        }
        for (Method method : program.getDeclaredMethods()) {
            if (Modifier.isPrivate(method.getModifiers())) {
                checks.note(!publicNames.contains(method.getName()), method + " bears the name of a public method");
            }
        }
    }

    private static void sourceKeepsToTheLanguage() throws Exception {
        String source = Files.readString(Path.of(SOURCE)).replaceAll("(?s)/\\*.*?\\*/", "").replaceAll("//[^\n]*", "").replaceAll("\"[^\"]*\"", "\"\"");
        for (String word : new String[] {"import", "package", "try", "catch", "finally", "synchronized", "assert", "instanceof", "Object", "System"}) {
            checks.note(!Arrays.asList(source.split("\\W+")).contains(word), "the source has the word " + word);
        }
        for (String sign : new String[] {"->", "::", "static {", "\" +", "+ \"", "@"}) {
            checks.note(!source.contains(sign), "the source has " + sign);
        }
        int begin = 0;
        String[] lines = source.split("\n");
        for (int i = 0; i < lines.length; i++) {
            if (lines[i].matches("    (    )?\\S.*\\{")) {
                begin = i;
            }
            boolean isEndOfMethod = lines[i].matches("    (    )?\\}");
            checks.note(!isEndOfMethod || lines[begin].contains("class ") || i - begin <= 60, "a long method behind " + lines[begin]);
        }
    }
}
