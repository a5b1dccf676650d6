import java.io.IOException;
import java.nio.file.Files;
import java.nio.file.Path;
import java.util.LinkedHashMap;
import java.util.Map;

/**
 * Every sentence of the document's promises and terms, each with a test of its own. Where the document is
 * at hand, the words are looked up in it, so that no sentence is left without a test.
 */
public final class SentencesTest {
    private static final Path DOCUMENT = Path.of("../shared/DOC.md");

    private static int lost = 0;

    private SentencesTest() {
    }

    public static void main(String[] args) throws IOException {
        TermsSentences.all();
        KeySentences.all();
        SchemaSentences.all();
        LoadedSentences.all();
        KeyRowSentences.all();
        DecodeSentences.all();
        KeptSentences.all();
        BoundSentences.all();
        if (Files.exists(DOCUMENT)) {
            lookUp(sectionsOf(Files.readString(DOCUMENT)));
        } else {
            System.out.println("no document at " + DOCUMENT + ": the sentences were not looked up in it");
        }
        int wrong = Sentences.wrongAnswers() + lost;
        System.out.println(wrong == 0
                ? Sentences.quotes().size() + " tests, " + Sentences.allAnswers() + " answers are as due"
                : wrong + " things are not as due");
        if (wrong != 0) {
            System.exit(1);
        }
    }

    /** The text of "What it is", "Terms" and each "Promise n", without signatures and marks of form. */
    private static Map<String, StringBuilder> sectionsOf(String document) {
        Map<String, StringBuilder> sections = new LinkedHashMap<>();
        for (String part : document.split("(?m)^## ")) {
            String heading = part.lines().findFirst().orElse("").split(":")[0];
            if (heading.matches("What it is|Terms|Promise \\d+")) {
                String body = part.substring(part.indexOf('\n') + 1);
                String text = body.replaceFirst("(?s)^\\s*`[^`]*\\)[^`]*`: ", "")
                        .replace("```text", "").replace("`", "").replaceAll("\\s+", " ");
                sections.put(heading, new StringBuilder(text.strip()));
            }
        }
        return sections;
    }

    /** Each quote stands in its section, and nothing of a section is without a quote. */
    private static void lookUp(Map<String, StringBuilder> sections) {
        Map<String, StringBuilder> rest = new LinkedHashMap<>();
        sections.forEach((heading, text) -> rest.put(heading, new StringBuilder(text)));
        for (Sentences.Quote quote : Sentences.quotes()) {
            StringBuilder text = sections.get(quote.section());
            int at = text == null ? -1 : text.indexOf(quote.words());
            if (at < 0) {
                lose("the document does not say in " + quote.section() + ": " + quote.words());
                continue;
            }
            for (int i = at; i < at + quote.words().length(); i++) {
                rest.get(quote.section()).setCharAt(i, ' ');
            }
        }
        rest.forEach((heading, text) -> {
            if (text.toString().matches(".*[A-Za-z0-9].*")) {
                lose("without a test in " + heading + ": " + text.toString().strip());
            }
        });
    }

    private static void lose(String what) {
        lost++;
        System.out.println(what);
    }
}
