import java.io.IOException;
import java.nio.file.Files;
import java.nio.file.Path;
import java.util.ArrayList;
import java.util.HashSet;
import java.util.LinkedHashSet;
import java.util.List;
import java.util.Set;

/** The sentences of the document, part by part; a test says which one it speaks of. */
final class Sentences {
    private static final Path DOCUMENT = Path.of("../shared/DOC.md");

    private final Checks checks;
    private final Set<String> spoken = new HashSet<>();
    private String part = "";

    Sentences(Checks checks) {
        this.checks = checks;
    }

    /** The checks that follow speak of sentences of this part, by its heading. */
    void part(String heading) {
        part = heading;
    }

    /** The checks that follow speak of this sentence. */
    void says(String sentence) {
        String told = part + ": " + sentence;
        spoken.add(told);
        checks.promise(told.length() > 120 ? told.substring(0, 120) + ".." : told);
    }

    /** Checks that each sentence below these headings, and no other one, was spoken of. */
    void checkSpoken(List<String> headings) throws IOException {
        checks.promise("Sentences");
        if (!Files.exists(DOCUMENT)) {
            return;
        }
        Set<String> due = new HashSet<>();
        for (String[] told : all()) {
            if (headings.contains(told[0])) {
                String sentence = told[0] + ": " + told[1];
                due.add(sentence);
                checks.due("spoken of: " + sentence, spoken.contains(sentence));
            }
        }
        for (String sentence : spoken) {
            checks.due("in the document: " + sentence, due.contains(sentence));
        }
    }

    /** The headings that have sentences, in their order. */
    static List<String> headings() throws IOException {
        Set<String> headings = new LinkedHashSet<>();
        if (Files.exists(DOCUMENT)) {
            for (String[] told : all()) {
                headings.add(told[0]);
            }
        }
        return new ArrayList<>(headings);
    }

    /** All sentences, each behind the heading of its part; the face stands in FormTest. */
    private static List<String[]> all() throws IOException {
        List<String[]> all = new ArrayList<>();
        String heading = "";
        boolean isCode = false;
        for (String line : Files.readAllLines(DOCUMENT)) {
            String text = line.strip();
            if (text.startsWith("```")) {
                isCode = !isCode;
            } else if (text.startsWith("#")) {
                heading = text.replaceFirst("#+ ", "");
            } else if (!isCode && isHeading(text)) {
                heading = text;
            } else if (!isCode && !text.isEmpty() && !heading.equals("Not promised")) {
                // What stands ahead of a promise's first sentence is its signature.
                String bare = text.replaceFirst("^`[^`]*`: ", "").replaceFirst("^- ", "");
                for (String sentence : bare.split("(?<=[.)])\\s+(?=[A-Z(`])")) {
                    all.add(new String[] {heading, sentence});
                }
            }
        }
        return all;
    }

    /** Some headings stand there without their signs. */
    private static boolean isHeading(String text) {
        return text.equals("What is read, and when formulas are run") || text.equals("Inserts, removals, moves, sorts");
    }
}
