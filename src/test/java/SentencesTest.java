import java.io.IOException;
import java.nio.file.Files;
import java.nio.file.Path;
import java.util.LinkedHashMap;
import java.util.Map;

/**
 * A test for each sentence of the document, under the sentence's own words. At the end the words are
 * compared with the document: each quote must stand there, and no sentence may be left without one.
 */
public final class SentencesTest {
    private static final Path DOCUMENT = Path.of("../shared/DOC.md");

    public static void main(String[] args) throws IOException {
        SaysBytes.run();
        SaysMaps.run();
        SaysEntries.run();
        SaysRing.run();
        SaysThrows.run();
        SaysPromises.run();
        Check.standsFor("");
        if (Files.isReadable(DOCUMENT)) {
            compareQuotes(sections(Files.readString(DOCUMENT)));
        } else {
            System.out.println(DOCUMENT + " is not there: the quotes were not compared with it");
        }
        Check.done();
    }

    /** The text of each section by its name, a promise's without its signature. */
    private static Map<String, String> sections(String document) {
        Map<String, String> texts = new LinkedHashMap<>();
        for (String part : document.split("(?m)^## ")) {
            int end = part.indexOf('\n');
            String title = end < 0 ? part : part.substring(0, end);
            String text = end < 0 ? "" : part.substring(end).replace("```text", "").replace("```", "");
            if (title.startsWith("Promise ")) {
                texts.put(title.substring(0, title.indexOf(':')), plain(text).replaceFirst("^`[^`]*`:", ""));
            } else if (title.equals(Sentence.TERMS) || title.equals(Sentence.WHAT_IT_IS)) {
                texts.put(title, plain(text));
            }
        }
        return texts;
    }

    private static String plain(String text) {
        return text.replaceAll("\\s+", " ").trim();
    }

    private static void compareQuotes(Map<String, String> texts) {
        Check.due("sections with promises and terms", texts.size(), 18);
        for (Sentence.Quote quote : Sentence.all()) {
            String text = texts.getOrDefault(quote.section, "");
            int at = text.indexOf(quote.text);
            if (at < 0) {
                Check.fail(quote.section + " does not say: " + quote.text);
            } else {
                // Blanks keep the pieces round a quote apart.
                String rest = text.substring(0, at) + "   " + text.substring(at + quote.text.length());
                texts.put(quote.section, rest);
            }
        }
        for (Map.Entry<String, String> left : texts.entrySet()) {
            if (left.getValue().matches("(?s).*[A-Za-z0-9].*")) {
                Check.fail(left.getKey() + " says, without a test: " + plain(left.getValue()));
            }
        }
    }
}
