import java.io.IOException;
import java.lang.reflect.Constructor;
import java.lang.reflect.Field;
import java.lang.reflect.Method;
import java.lang.reflect.Modifier;
import java.nio.file.Files;
import java.nio.file.Path;
import java.util.Arrays;
import java.util.HashSet;
import java.util.List;
import java.util.Set;
import java.util.TreeSet;
import java.util.stream.Collectors;

/** The public face of the document, and the rules of LANGUAGE.md that a text search can see. */
public final class FaceTest {
    private static final Path PROGRAM = Path.of("src/main/java/SandProofreader.java");
    private static final Path DOCUMENT = Path.of("../shared/DOC.md");

    private static final List<String> FORBIDDEN = List.of("catch", "try", "finally", "synchronized",
            "assert", "->", "::", "Exact(", "System.out", "java.io", "var ", "native",
            "volatile", "transient", "Random", "Thread", "hashCode", "toString", "nanoTime");

    public static void main(String[] args) throws IOException {
        theFaceIsTheDocuments();
        theConstantsAreTheDocuments();
        nothingElseIsVisible();
        thereIsOneConstructor();
        theRulesHold();
        Runs.end();
    }

    private static void theFaceIsTheDocuments() throws IOException {
        Set<String> wanted = new TreeSet<>();
        for (String line : Files.readAllLines(DOCUMENT)) {
            if (line.startsWith("    public ") && line.contains("(") && !line.contains("=")
                    && !line.contains("SandProofreader(")) {
                wanted.add(line.strip().replaceAll("(int|boolean|char) \\w+([,)])", "$1$2")
                        .replace(";", ""));
            }
        }
        Set<String> found = new TreeSet<>();
        for (Method method : SandProofreader.class.getDeclaredMethods()) {
            if (Modifier.isPublic(method.getModifiers())) {
                found.add(faceOf(method));
            }
        }
        Runs.due("the number of methods in the document", 62, wanted.size());
        for (String method : wanted) {
            Runs.due(method, true, found.contains(method));
        }
        Runs.due("the number of methods in the program", wanted.size(), found.size());
    }

    private static String faceOf(Method method) {
        String parameters = Arrays.stream(method.getParameterTypes())
                .map(Class::getSimpleName).collect(Collectors.joining(", "));
        String exceptions = Arrays.stream(method.getExceptionTypes())
                .map(Class::getSimpleName).collect(Collectors.joining(", "));
        return "public " + method.getReturnType().getSimpleName() + " " + method.getName()
                + "(" + parameters + ")" + (exceptions.isEmpty() ? "" : " throws " + exceptions);
    }

    private static void theConstantsAreTheDocuments() {
        Runs.due("TRACK_LIMIT", 1, SandProofreader.TRACK_LIMIT);
        Runs.due("PRINT_LIMIT", 2, SandProofreader.PRINT_LIMIT);
        Runs.due("TIME_TAKEN", 3, SandProofreader.TIME_TAKEN);
        Runs.due("UNDER_WATER", 4, SandProofreader.UNDER_WATER);
        Runs.due("CELL_TAKEN", 5, SandProofreader.CELL_TAKEN);
        Runs.due("TOO_FAR", 6, SandProofreader.TOO_FAR);
        Runs.due("DOUBT_LIMIT", 7, SandProofreader.DOUBT_LIMIT);
        Runs.due("NO_DOUBT", 8, SandProofreader.NO_DOUBT);
        Runs.due("SAME_LEVEL", 9, SandProofreader.SAME_LEVEL);
        Runs.due("COMMAND_REJECTED", 10, SandProofreader.COMMAND_REJECTED);
    }

    private static void nothingElseIsVisible() {
        int constants = 0;
        for (Field field : SandProofreader.class.getDeclaredFields()) {
            constants += Modifier.isPublic(field.getModifiers()) ? 1 : 0;
            Runs.due("visibility of " + field.getName(), true,
                    Modifier.isPublic(field.getModifiers())
                            || Modifier.isPrivate(field.getModifiers()));
            Runs.due("a static field is final: " + field.getName(), true,
                    !Modifier.isStatic(field.getModifiers())
                            || Modifier.isFinal(field.getModifiers()));
        }
        Runs.due("the number of public constants", 10, constants);
        for (Method method : SandProofreader.class.getDeclaredMethods()) {
            Runs.due("visibility of " + method.getName(), true,
                    Modifier.isPublic(method.getModifiers())
                            || Modifier.isPrivate(method.getModifiers()));
        }
        Runs.due("the class is public and final", true,
                Modifier.isPublic(SandProofreader.class.getModifiers())
                        && Modifier.isFinal(SandProofreader.class.getModifiers()));
        Runs.due("the class has no package", "", SandProofreader.class.getPackageName());
    }

    private static void thereIsOneConstructor() {
        Constructor<?>[] all = SandProofreader.class.getDeclaredConstructors();
        Runs.due("the number of constructors", 1, all.length);
        Runs.due("the constructor is public", true, Modifier.isPublic(all[0].getModifiers()));
        Runs.due("the constructor's parameters", 0, all[0].getParameterCount());
    }

    private static void theRulesHold() throws IOException {
        List<String> lines = Files.readAllLines(PROGRAM);
        int imports = 0;
        for (int i = 0; i < lines.size(); i++) {
            String code = lines.get(i).strip();
            if (code.startsWith("/**") || code.startsWith("*") || code.startsWith("//")) {
                continue;
            }
            imports += code.startsWith("import ") ? 1 : 0;
            for (String word : FORBIDDEN) {
                Runs.due("line " + (i + 1) + " has " + word, false, has(code, word));
            }
        }
        Runs.due("the one import", true,
                imports == 1 && lines.contains("import java.util.NoSuchElementException;"));
        classesStaySmall(SandProofreader.class, publicNames());
        int classes = 1;
        for (Class<?> inside : SandProofreader.class.getDeclaredClasses()) {
            classes++;
            classesStaySmall(inside, publicNames());
        }
        Runs.due("twelve classes at most: " + classes, true, classes <= 12);
    }

    /** A forbidden word counts only as a whole word: "entry" is no "try". */
    private static boolean has(String code, String word) {
        int at = code.indexOf(word);
        return at >= 0 && (!Character.isLetter(word.charAt(0)) || at == 0
                || !Character.isLetterOrDigit(code.charAt(at - 1)));
    }

    private static Set<String> publicNames() {
        Set<String> names = new HashSet<>();
        for (Method method : SandProofreader.class.getDeclaredMethods()) {
            if (Modifier.isPublic(method.getModifiers())) {
                names.add(method.getName());
            }
        }
        return names;
    }

    private static void classesStaySmall(Class<?> one, Set<String> publicNames) {
        int fields = 0;
        for (Field field : one.getDeclaredFields()) {
            fields += Modifier.isStatic(field.getModifiers()) ? 0 : 1;
        }
        Runs.due("twenty fields at most in " + one.getName(), true, fields <= 20);
        for (Method method : one.getDeclaredMethods()) {
            Runs.due("seven parameters at most: " + method.getName(), true,
                    method.getParameterCount() <= 7);
            Runs.due("a name of the face is used again: " + method.getName(), false,
                    !Modifier.isPublic(method.getModifiers())
                            && publicNames.contains(method.getName()));
        }
    }
}
