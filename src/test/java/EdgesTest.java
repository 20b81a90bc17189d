import java.nio.charset.StandardCharsets;
import java.nio.file.Files;
import java.nio.file.Path;

/**
 * The edges that the document names. Each test stands under the sentence that it tests, and all
 * sentences of the document's Terms and promises must have one.
 */
public final class EdgesTest {
    public static void main(String[] args) throws Exception {
        BoardEdges.all();
        LawEdges.all();
        ThoughtEdges.all();
        CallEdges.all();
        RefusalEdges.all();
        everySentence();
        System.out.println("edges: " + Edge.rows() + " rows, " + Edge.wrong() + " answers are not as due");
        if (Edge.wrong() != 0) System.exit(1);
    }

    /** What is left of the document without what has been quoted; only signs may be left. */
    private static void everySentence() throws Exception {
        String text = Files.readString(Path.of("../shared/DOC.md"), StandardCharsets.UTF_8);
        int from = text.indexOf("An object is used for at most");
        int face = text.indexOf("## The public face");
        int terms = text.indexOf("## Terms");
        int rest = text.indexOf("## Not promised");
        text = text.substring(from, face) + text.substring(terms, rest);
        text = text.replaceAll("(?m)^##.*$", "").replace("```text", "").replace("```", "");
        text = text.replaceAll("(?m)^`[^`]*`: ", "").replaceAll("==== \\d\\. THE BOARD:", "").replaceAll("==== \\d\\.", "");
        text = text.replaceAll("\\s+", " ");
        StringBuilder left = new StringBuilder(text);
        for (String quote : Edge.quotes()) {
            int at = text.indexOf(quote);
            Edge.due("the document says: " + quote, at >= 0 ? 1 : 0, 1);
            for (int i = at; at >= 0 && i < at + quote.length(); i++) left.setCharAt(i, '.');
        }
        String without = left.toString().replaceAll("[ .]{3,}", " ... ").trim();
        Edge.due("sentences without a test: " + without, without.matches("[ .]*") ? 0 : 1, 0);
    }
}
