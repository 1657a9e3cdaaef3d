import java.nio.file.Files;
import java.nio.file.Path;
import java.util.LinkedHashMap;
import java.util.Map;

/** The document: a test quotes the words that it holds, and no words of Terms or promises stay without a test. */
final class Doc {
    /** The words of one part, and which of its signs some test has quoted. */
    private static final class Part {
        final String words;
        final boolean[] quoted;

        Part(String words) {
            this.words = words;
            this.quoted = new boolean[words.length()];
        }
    }

    private static final Map<String, Part> PARTS = new LinkedHashMap<>();

    private Doc() {
    }

    static void open(Path file) throws Exception {
        String name = "";
        StringBuilder body = new StringBuilder();
        for (String line : Files.readAllLines(file)) {
            if (line.startsWith("## ")) {
                close(name, body);
                name = line.substring(3).replaceAll(":.*", "");
            } else if (!line.startsWith("```")) {
                body.append(line).append(' ');
            }
        }
        close(name, body);
    }

    private static void close(String name, StringBuilder body) {
        // the face of a promise stands ahead of its words, FaceTest holds it
        String words = body.toString().replaceAll("\\s+", " ").strip().replaceAll("^`[^`]*`: ", "");
        PARTS.put(name, new Part(words));
        body.setLength(0);
    }

    /** The checks that follow hold these words of Terms. */
    static void terms(String quote) {
        says("Terms", quote);
    }

    /** The checks that follow hold these words of a promise. */
    static void promise(int number, String quote) {
        says("Promise " + number, quote);
    }

    static void says(String name, String quote) {
        Checks.about(name + ", \"" + quote + "\"");
        Part part = PARTS.get(name);
        int at = part == null ? -1 : part.words.indexOf(quote);
        Checks.holds("the document says so", at >= 0);
        for (int i = at; at >= 0 && i < at + quote.length(); i++) {
            part.quoted[i] = true;
        }
    }

    /** Tells every word of Terms and of the promises that no test has quoted. */
    static void allIsQuoted() {
        Checks.about("");
        Checks.due("promises", PARTS.keySet().stream().filter(name -> name.startsWith("Promise ")).count(), 46);
        PARTS.forEach((name, part) -> {
            if (name.equals("Terms") || name.startsWith("Promise ")) {
                StringBuilder left = new StringBuilder();
                for (int i = 0; i < part.quoted.length; i++) {
                    left.append(part.quoted[i] ? ' ' : part.words.charAt(i));
                }
                String bare = left.toString().replaceAll("==== \\d\\.", "").replaceAll("\\s+", " ");
                Checks.holds(name + ": some test quotes '" + bare + "'", !bare.matches(".*[a-zA-Z0-9].*"));
            }
        });
    }
}
