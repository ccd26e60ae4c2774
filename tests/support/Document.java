import java.io.IOException;
import java.io.UncheckedIOException;
import java.nio.file.Files;
import java.nio.file.Path;
import java.util.ArrayList;
import java.util.HashSet;
import java.util.LinkedHashMap;
import java.util.List;
import java.util.Map;
import java.util.Set;

/**
 * The sentences of the document, by section. A test names the sentence that it looks at by its first
 * words; a sentence that no test has named is told as left out.
 */
final class Document {
    private static final Path PATH = Path.of("../shared/DOC.md");

    private final Map<String, List<String>> sections = new LinkedHashMap<>();
    private final Set<String> named = new HashSet<>();

    Document() {
        String section = "";
        for (String line : lines()) {
            if (line.startsWith("## ")) {
                section = line.substring(3).replaceAll(":.*", "");
            } else if (section.equals("Terms")) {
                addTerm(line);
            } else if (section.startsWith("Promise") || section.equals("What it is")) {
                add(section, line.replaceAll("^`[^`]*`: ", ""));
            }
        }
    }

    private static List<String> lines() {
        try {
            return Files.readAllLines(PATH);
        } catch (IOException missing) {
            throw new UncheckedIOException(missing);
        }
    }

    /** A paragraph of the terms has its title as its first word; the comments of the face are no terms. */
    private void addTerm(String line) {
        if (line.matches("[A-Z][a-z]+\\. .*")) {
            String title = line.substring(0, line.indexOf('.'));
            add(title, line.substring(title.length() + 2));
        } else if (!line.startsWith("Ahead of the calls ")) {
            add("Terms", line);
        }
    }

    private void add(String section, String line) {
        for (String sentence : line.split("(?<=\\.) +")) {
            List<String> sentences = sections.computeIfAbsent(section, title -> new ArrayList<>());
            if (!sentence.isBlank() && !sentences.contains(sentence.strip())) {
                sentences.add(sentence.strip());
            }
        }
    }

    /** Names sentences of a section by their first words; there must be just one for each of them. */
    void says(String section, String... beginnings) {
        for (String beginning : beginnings) {
            List<String> found = sections.getOrDefault(section, List.of()).stream()
                .filter(sentence -> sentence.startsWith(beginning)).toList();
            if (found.size() != 1) {
                throw new IllegalStateException(section + " has " + found + " for: " + beginning);
            }
            named.add(section + ": " + found.get(0));
        }
    }

    /** The exceptions of a promise, in the order in which they are documented. */
    List<String> exceptionsOf(int promise) {
        return sections.getOrDefault("Promise " + promise, List.of()).stream()
            .filter(sentence -> sentence.startsWith("Throws `")).map(sentence -> sentence.split("`")[1]).toList();
    }

    /** The sentences that have not been named, of the promises or of all that stands ahead of them. */
    List<String> left(boolean ofPromises) {
        List<String> left = new ArrayList<>();
        sections.forEach((section, sentences) -> {
            if (section.startsWith("Promise") == ofPromises) {
                sentences.stream().map(sentence -> section + ": " + sentence)
                    .filter(sentence -> !named.contains(sentence)).forEach(left::add);
            }
        });
        return left;
    }
}
