import java.io.IOException;
import java.io.UncheckedIOException;
import java.nio.file.Files;
import java.nio.file.Path;
import java.util.BitSet;
import java.util.LinkedHashMap;
import java.util.Map;
import java.util.Set;

/** The parts of DOC.md, from "What it is" to "Promise 36", and which of their sentences have been quoted. */
final class Document {
    private static final Path FILE = Path.of("../shared/DOC.md");
    private static final Set<String> PLAIN_HEADINGS = Set.of("Flows, places", "History, errors");

    private final Map<String, String> parts = new LinkedHashMap<>();
    private final Map<String, BitSet> quoted = new LinkedHashMap<>();

    Document() {
        try {
            String text = Files.readString(FILE);
            read(text.substring(text.indexOf("\n## What it is"), text.indexOf("\n## Not promised")));
        } catch (IOException e) {
            throw new UncheckedIOException(e);
        }
    }

    /** Java, signatures and the headings within a list of methods ("---- text") are no sentences. */
    private void read(String text) {
        String name = "";
        boolean isJava = false;
        for (String line : text.split("\n")) {
            isJava ^= line.startsWith("```");
            if (isJava) {
                continue;
            }
            if (line.startsWith("#") || PLAIN_HEADINGS.contains(line)) {
                name = line.replaceFirst("^#+ ", "").replaceFirst("^(Promise \\d+): .*", "$1");
                parts.put(name, "");
                quoted.put(name, new BitSet());
            } else if (!line.isBlank() && !line.startsWith("`") && !line.startsWith("---- ")) {
                parts.put(name, (parts.get(name) + " " + line.replaceFirst("^- ", "").replace("`", "").trim()).trim());
            }
        }
    }

    /** Takes a sentence as quoted; false if its part doesn't have it. */
    boolean quote(String part, String sentence) {
        String text = parts.getOrDefault(part, "");
        int at = text.indexOf(sentence);
        if (at >= 0) {
            quoted.get(part).set(at, at + sentence.length());
        }
        return at >= 0;
    }

    /** What hasn't been quoted, part by part; empty if everything has. */
    Map<String, String> leftOver() {
        Map<String, String> left = new LinkedHashMap<>();
        for (Map.Entry<String, String> part : parts.entrySet()) {
            StringBuilder rest = new StringBuilder();
            for (int i = 0; i < part.getValue().length(); i++) {
                rest.append(quoted.get(part.getKey()).get(i) ? ' ' : part.getValue().charAt(i));
            }
            if (rest.toString().matches("(?s).*[A-Za-z0-9].*")) {
                left.put(part.getKey(), rest.toString().replaceAll(" +", " ").trim());
            }
        }
        return left;
    }
}
