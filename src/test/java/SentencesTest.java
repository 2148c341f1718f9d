import java.io.IOException;
import java.nio.file.Files;
import java.nio.file.Path;
import java.util.ArrayList;
import java.util.List;
import java.util.Map;
import java.util.TreeMap;
import java.util.regex.Matcher;
import java.util.regex.Pattern;
import java.util.stream.Stream;

/**
 * The sentences that the tests name stand in ../shared/DOC.md, and all that it promises is named by
 * one of them; run in the project's folder.
 */
public final class SentencesTest {
    private static final String QUOTED = "\"[^\"]*\"";
    private static final Pattern NAMED = Pattern.compile("Checks\\.sentence\\(\\s*\"([^\"]*)\",\\s*("
        + QUOTED + "(?:\\s*\\+\\s*" + QUOTED + ")*)\\)");

    public static void main(String[] args) throws IOException {
        Path document = Path.of("../shared/DOC.md");
        // It is the tests' names that are looked at: without the document the program is no worse.
        if (!Files.exists(document)) {
            System.out.println("there is no " + document + " here: no sentence was looked up");
            return;
        }
        Map<String, String> parts = partsOf(Files.readString(document));
        Map<String, boolean[]> covered = new TreeMap<>();
        parts.forEach((name, words) -> covered.put(name, new boolean[words.length()]));
        for (String source : sources()) {
            Matcher named = NAMED.matcher(source);
            while (named.find()) {
                String words = named.group(2).replaceAll("\"\\s*\\+\\s*\"", "");
                lookUp(named.group(1), words.substring(1, words.length() - 1), parts, covered);
            }
        }
        for (String name : parts.keySet()) {
            if (!name.equals("The public face") && !name.equals("Not promised")) {
                Checks.due("what no test names in " + name,
                    uncovered(parts.get(name), covered.get(name)), "");
            }
        }
        Checks.finish();
    }

    private static List<String> sources() throws IOException {
        List<String> sources = new ArrayList<>();
        try (Stream<Path> files = Files.list(Path.of("src/test/java"))) {
            for (Path file : files.sorted().toList()) {
                sources.add(Files.readString(file));
            }
        }
        return sources;
    }

    /** The document's parts by their headings, a promise by its number, all in single blanks. */
    private static Map<String, String> partsOf(String document) {
        Map<String, String> parts = new TreeMap<>();
        for (String part : document.split("(?m)^## ")) {
            int line = part.indexOf('\n');
            if (line > 0 && !part.startsWith("# ")) {
                String name = part.substring(0, line).replaceAll("^(Promise \\d+):.*", "$1");
                String words = part.substring(line).replaceAll("```\\w*", " ")
                    .replaceAll("(?m)^`[^`]*`:", " ").replace("1. OBJECTS AND TEXTS.", " ");
                parts.put(name, words.replaceAll("\\s+", " ").trim());
            }
        }
        return parts;
    }

    private static void lookUp(String promise, String words, Map<String, String> parts,
        Map<String, boolean[]> covered) {
        Matcher inBrackets = Pattern.compile("\\((.*)\\)").matcher(promise);
        String name = inBrackets.find() ? inBrackets.group(1) : promise;
        int from = parts.getOrDefault(name, "").indexOf(words);
        Checks.due("\"" + words + "\" stands in " + name, from >= 0, true);
        for (int k = 0; from >= 0 && k < words.length(); k++) {
            covered.get(name)[from + k] = true;
        }
    }

    private static String uncovered(String words, boolean[] covered) {
        StringBuilder left = new StringBuilder();
        for (int k = 0; k < words.length(); k++) {
            left.append(covered[k] ? ' ' : words.charAt(k));
        }
        return left.toString().replaceAll("\\s+", " ").trim();
    }
}
