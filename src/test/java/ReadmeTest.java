import java.io.IOException;
import java.lang.reflect.Method;
import java.lang.reflect.Modifier;
import java.nio.file.Files;
import java.nio.file.Path;
import java.util.regex.Matcher;
import java.util.regex.Pattern;

/** The calls that README.md shows, all in one run, and that it names every call of the face. */
public final class ReadmeTest {
    private static final Path README = Path.of("README.md");
    private static final Pattern ROWS = Pattern.compile("(?s)```run\n(.*?)```");

    public static void main(String[] args) throws IOException {
        String readme = Files.readString(README);
        Runs.run("README.md", rows(readme));
        everyCallIsNamed(readme);
        Runs.end();
    }

    private static String rows(String readme) {
        StringBuilder rows = new StringBuilder();
        Matcher block = ROWS.matcher(readme);
        while (block.find()) {
            rows.append(block.group(1));
        }
        return rows.toString();
    }

    private static void everyCallIsNamed(String readme) {
        for (Method method : SandProofreader.class.getDeclaredMethods()) {
            if (Modifier.isPublic(method.getModifiers())) {
                Runs.due("README.md names " + method.getName(), true,
                        readme.contains("`" + method.getName() + "`"));
            }
        }
    }
}
