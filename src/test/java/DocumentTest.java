import java.io.IOException;
import java.nio.file.Files;
import java.nio.file.Path;

/** Each word of the document's Terms and promises is quoted by a test of one sentence: what isn't has no such test. */
public final class DocumentTest {
    private static final Path DOCUMENT = Path.of("../shared/DOC.md");
    private static final String LEFT_OUT = "[..]";

    public static void main(String[] args) throws IOException {
        SentencesTest.main(args);
        BoundsOfSchemaTest.main(args);
        BoundsOfQueryTest.main(args);
        BoundsOfPlacesTest.main(args);
        BoundsOfCallsTest.main(args);
        Check.noSentence();
        if (Files.exists(DOCUMENT)) {
            compare(Files.readString(DOCUMENT));
        } else {
            System.out.println("the document is not here, so its words are not looked for");
        }
        Check.end();
    }

    private static void compare(String document) {
        String words = document.replaceAll("(?m)^(#|```).*$", "").replaceAll("\\s+", " ");
        boolean[] quoted = new boolean[words.length()];
        for (String quote : Check.quoted()) {
            mark(words, quote, quoted);
        }
        int at = words.indexOf("FIELDS, at most");
        int end = words.indexOf("How the state is held");
        Check.due("Terms and promises are in the document", at >= 0 && at < end ? 1 : 0, 1);
        while (at >= 0 && at < end) {
            int from = at;
            while (at < end && !quoted[at]) {
                at++;
            }
            String missed = words.substring(from, at);
            Check.due("tests that quote: " + missed, missed.matches(".*[A-Za-z0-9].*") ? 0 : 1, 1);
            at++;
        }
    }

    /** The quote's first words say where it is, those behind words left out follow. */
    private static void mark(String words, String quote, boolean[] quoted) {
        int from = 0;
        for (String part : quote.split(" ?\\Q" + LEFT_OUT + "\\E ?")) {
            int at = words.indexOf(part, from);
            boolean isOnePlace = from > 0 || words.indexOf(part, at + 1) < 0;
            Check.due("places in the document of: " + part, at < 0 ? 0 : isOnePlace ? 1 : 2, 1);
            for (int i = Math.max(0, at); i < at + part.length(); i++) {
                quoted[i] = true;
            }
            from = Math.max(from, at + part.length());
        }
    }
}
