import java.io.IOException;
import java.nio.file.Files;
import java.nio.file.Path;
import java.util.ArrayList;
import java.util.LinkedHashMap;
import java.util.List;
import java.util.Map;
import java.util.Set;
import java.util.TreeSet;

/** The sentences of the document, cut at their semicolons too, and which of them a test names. */
final class Sentences {
    private static final Path DOCUMENT = Path.of("../shared/DOC.md");

    private final Map<String, List<String>> bySection = new LinkedHashMap<>();
    private final Set<String> named = new TreeSet<>();

    Sentences() throws IOException {
        if (!isThere()) {
            return;
        }
        String section = "";
        boolean code = false;
        for (String line : Files.readAllLines(DOCUMENT)) {
            code ^= line.startsWith("```");
            if (line.startsWith("#")) {
                section = line.replaceFirst("#+ ", "");
                bySection.put(section, new ArrayList<>());
            } else if (!code && !line.isBlank() && !line.startsWith("```")) {
                bySection.computeIfAbsent(section, none -> new ArrayList<>()).addAll(clauses(withoutSignature(line)));
            }
        }
    }

    static boolean isThere() {
        return Files.isReadable(DOCUMENT);
    }

    private static String withoutSignature(String line) {
        return line.replaceFirst("^`[^`]*\\([^`]*`: ", "").replaceFirst("^- ", "");
    }

    private static List<String> clauses(String text) {
        List<String> clauses = new ArrayList<>();
        String plain = text.replace("`", "").replaceAll("\\s+", " ").strip();
        for (String clause : plain.split("(?<=\\.) (?=[A-Z])|(?<=;) ")) {
            clauses.add(clause.replaceFirst("[.;]$", ""));
        }
        return clauses;
    }

    /** Whether the section says this: a clause, a part of one, or several. */
    boolean name(String section, String citation) {
        boolean all = true;
        for (String part : clauses(citation)) {
            boolean found = false;
            for (String clause : bySection.getOrDefault(section, List.of())) {
                if (clause.contains(part)) {
                    found = true;
                    named.add(section + " | " + clause);
                }
            }
            all &= found;
        }
        return all || !isThere();
    }

    List<String> unnamed(Set<String> sectionsLeftOut) {
        List<String> unnamed = new ArrayList<>();
        for (Map.Entry<String, List<String>> section : bySection.entrySet()) {
            for (String clause : section.getValue()) {
                String name = section.getKey() + " | " + clause;
                if (!sectionsLeftOut.contains(section.getKey()) && !named.contains(name)) {
                    unnamed.add(name);
                }
            }
        }
        return unnamed;
    }
}
