import java.util.ArrayList;
import java.util.List;

/** Which sentence of the document the checks that follow stand for. */
final class Sentence {
    static final String WHAT_IT_IS = "What it is";
    static final String TERMS = "Terms";

    /** One quoted piece of the document, and the section that it stands in. */
    static final class Quote {
        final String section;
        final String text;

        Quote(String section, String text) {
            this.section = section;
            this.text = text;
        }
    }

    private static final List<Quote> QUOTES = new ArrayList<>();

    private Sentence() {
    }

    static void of(String section, String text) {
        QUOTES.add(new Quote(section, text));
        Check.standsFor(section + ": \"" + text + "\"");
    }

    static void ofTerms(String text) {
        of(TERMS, text);
    }

    static void ofPromise(int number, String text) {
        of("Promise " + number, text);
    }

    static List<Quote> all() {
        return QUOTES;
    }
}
