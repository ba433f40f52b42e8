import java.io.IOException;
import java.nio.file.Files;
import java.nio.file.Path;

/** The document's sentences as a test quotes them: each needs checks of its own, and none may be left out. */
final class Document {
    private static final Path FILE = Path.of("../shared/DOC.md");

    private final Edges edges;
    private final StringBuilder quoted = new StringBuilder();
    private String sentence = "";
    private boolean isChecked = true;
    private int sentences = 0;

    Document(Edges edges) {
        this.edges = edges;
    }

    /** A head, or a sentence that asks for nothing that could be tested. */
    void passes(String text) {
        endSentence();
        quoted.append(plain(text)).append(' ');
    }

    /** The checks that come next are those of this sentence. */
    void says(String text) {
        passes(text);
        sentence = plain(text);
        isChecked = false;
        sentences++;
    }

    void due(String what, long got, long want) {
        isChecked = true;
        edges.due("\"" + (sentence.length() > 50 ? sentence.substring(0, 50) + ".." : sentence) + "\": " + what, got, want);
    }

    void holds(String what, boolean right) {
        due(what, right ? 1 : 0, 1);
    }

    /** All sentences, from the first line to the last, have been quoted as they stand. */
    void end() throws IOException {
        endSentence();
        String whole = plain(Files.readString(FILE));
        String mine = quoted.toString().trim();
        int same = 0;
        while (same < whole.length() && same < mine.length() && whole.charAt(same) == mine.charAt(same)) {
            same++;
        }
        if (!whole.equals(mine)) {
            System.out.println("the document: " + part(whole, same) + "\nthe test:     " + part(mine, same));
        }
        edges.due("all of the document is quoted", whole.equals(mine) ? 1 : 0, 1);
        System.out.println(sentences + " sentences have tests of their own");
        edges.end();
    }

    private void endSentence() {
        edges.due("a test of its own: " + sentence, isChecked ? 1 : 0, 1);
    }

    private static String part(String text, int place) {
        return text.substring(Math.max(0, place - 20), Math.min(text.length(), place + 80));
    }

    /** Without the marks of the page, and with one space where there are some, or a new line. */
    private static String plain(String text) {
        return text.replaceAll("```(java|text)?|=====+", " ").replaceAll("\\s+", " ").trim();
    }
}
