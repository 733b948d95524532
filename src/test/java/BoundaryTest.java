import java.io.IOException;
import java.nio.file.Files;
import java.nio.file.Path;
import java.util.ArrayList;
import java.util.HashMap;
import java.util.LinkedHashMap;
import java.util.LinkedHashSet;
import java.util.List;
import java.util.Map;
import java.util.Set;
import java.util.stream.Collectors;
import java.util.stream.Stream;

/**
 * The runs under src/test/boundaries, each below the sentence of the document that it tests.
 *
 * Every sentence that a file quotes must stand in its section of the document, and every sentence
 * of those sections must be quoted, with a run below it.
 */
public final class BoundaryTest {
    private static final Path DOCUMENT = Path.of("../shared/DOC.md");
    private static final Path RUNS = Path.of("src/test/boundaries");
    private static final Set<String> OTHER_SECTIONS = Set.of("What it is", "Terms");
    /** A sentence of so few words is the label of a paragraph, as "Beach." is. */
    private static final int WORDS_OF_A_LABEL = 2;

    private final Map<String, Set<String>> document = new LinkedHashMap<>();
    private final Map<String, List<String>> beaches = new HashMap<>();
    private final List<Run> runs = new ArrayList<>();
    private String section = "";
    private String beach = "";
    private List<String> quotes = new ArrayList<>();
    private Run latest;

    private record Run(String section, List<String> quotes, String name, List<String> rows) {
    }

    public static void main(String[] args) throws IOException {
        BoundaryTest test = new BoundaryTest();
        test.readDocument();
        for (Path file : files()) {
            for (String line : Files.readAllLines(file)) {
                test.read(line.strip());
            }
        }
        test.everySentenceHasARun();
        for (Run run : test.runs) {
            Runs.run(run.section + ", " + run.name, test.withBeaches(run.rows));
        }
        Runs.end();
    }

    private static List<Path> files() throws IOException {
        try (Stream<Path> all = Files.list(RUNS)) {
            return all.sorted().collect(Collectors.toList());
        }
    }

    // ---- the document

    private void readDocument() throws IOException {
        String text = Files.readString(DOCUMENT).replaceAll("(?s)```.*?```", "");
        for (String part : text.split("\n## ")) {
            String heading = part.lines().findFirst().orElse("").replaceAll(":.*", "");
            if (heading.startsWith("Promise") || OTHER_SECTIONS.contains(heading)) {
                document.put(heading, sentences(part.substring(part.indexOf('\n'))));
            }
        }
    }

    private static Set<String> sentences(String text) {
        Set<String> all = new LinkedHashSet<>();
        for (String paragraph : text.split("\n\\s*\n|\n(?=- )")) {
            String plain = paragraph.strip().replaceAll("\\s+", " ")
                    .replaceAll("^`[^`]*\\)[^`]*`: |^- |^The constants: ", "");
            if (!plain.startsWith("Ahead of the calls")) {
                all.addAll(List.of(plain.split("(?<=\\.) (?=[A-Z\"])")));
            }
        }
        all.removeIf(sentence -> sentence.split(" ").length <= WORDS_OF_A_LABEL
                && !sentence.contains("`"));
        return all;
    }

    // ---- the files

    private void read(String line) {
        if (line.isEmpty() || line.startsWith("#")) {
            return;
        }
        String rest = line.substring(Math.min(3, line.length()));
        if (line.startsWith("== ")) {
            section = rest;
            quotes = new ArrayList<>();
            latest = null;
        } else if (line.startsWith("++ ")) {
            beach = rest;
            beaches.put(beach, new ArrayList<>());
            latest = null;
        } else if (line.startsWith("> ")) {
            quote(line.substring(2));
        } else if (line.startsWith("-- ")) {
            latest = new Run(section, quotes, rest, new ArrayList<>());
            runs.add(latest);
            beach = "";
        } else {
            rows().add(line);
        }
    }

    /** The runs below some quotes that stand together test all of them. */
    private void quote(String line) {
        if (latest != null) {
            quotes = new ArrayList<>();
            latest = null;
        }
        quotes.add(line);
    }

    private List<String> rows() {
        return latest != null ? latest.rows : beaches.get(beach);
    }

    private String withBeaches(List<String> rows) {
        StringBuilder all = new StringBuilder();
        for (String row : rows) {
            if (row.startsWith("beach ")) {
                all.append(withBeaches(beaches.get(row.substring("beach ".length()))));
            } else {
                all.append(row).append('\n');
            }
        }
        return all.toString();
    }

    private void everySentenceHasARun() {
        Map<String, Set<String>> quoted = new HashMap<>();
        for (Run run : runs) {
            quoted.computeIfAbsent(run.section, any -> new LinkedHashSet<>()).addAll(run.quotes);
        }
        for (Map.Entry<String, Set<String>> part : document.entrySet()) {
            Set<String> here = quoted.getOrDefault(part.getKey(), Set.of());
            for (String sentence : part.getValue()) {
                Runs.due(part.getKey() + " has a run for: " + sentence, true,
                        here.contains(sentence));
            }
            for (String sentence : here) {
                Runs.due(part.getKey() + " says: " + sentence, true,
                        part.getValue().contains(sentence));
            }
        }
        Runs.due("no other sections", true, document.keySet().containsAll(quoted.keySet()));
    }
}
