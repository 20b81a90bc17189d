import java.util.ArrayList;
import java.util.List;

/** What the tests of edges share: due answers, each under the sentence of the document that it tests. */
final class Edge {
    static final int NONE = OneThread.NONE;

    private static final List<String> quotes = new ArrayList<>();
    private static String sentence = "";
    private static int rows = 0;
    private static int rowsOfSentence = 0;
    private static int wrong = 0;

    private Edge() {
    }

    /** The sentence that the rows from here on test, word by word as the document has it. */
    static void says(String quote) {
        if (rowsOfSentence == 0 && !quotes.isEmpty()) due("rows under \"" + sentence + "\"", 0, 1);
        sentence = quote;
        rowsOfSentence = 0;
        quotes.add(quote);
    }

    static void due(String call, int got, int want) {
        rows++;
        rowsOfSentence++;
        if (got != want) {
            wrong++;
            System.out.println("\"" + sentence + "\": " + call + " answered " + got + ", due is " + want);
        }
    }

    static void yes(String call, boolean got) {
        due(call, got ? 1 : 0, 1);
    }

    static void no(String call, boolean got) {
        due(call, got ? 1 : 0, 0);
    }

    static List<String> quotes() {
        return quotes;
    }

    static int rows() {
        return rows;
    }

    static int wrong() {
        return wrong;
    }

    /** A board with pins, each told as look tells it: x and 10 times y. */
    static OneThread pins(int s, int... places) {
        OneThread x = new OneThread();
        x.board(s);
        for (int p : places) x.pin(p % 10, p / 10);
        return x;
    }

    /** Pins in rows from (0, 0) on: pin i is at (i modulo s + 1, i / (s + 1)). */
    static OneThread grid(int s, int many) {
        OneThread x = new OneThread();
        x.board(s);
        for (int i = 0; i < many; i++) x.pin(i % (s + 1), i / (s + 1));
        return x;
    }

    /** The tape is this text then; 400 signs at most. */
    static void put(OneThread x, String text) {
        x.end(0);
        for (int i = 0; i < text.length(); i += 20) {
            int[] five = new int[5];
            for (int j = 0; j < 20; j++) {
                int sign = i + j < text.length() ? text.charAt(i + j) & 255 : ' ';
                five[j / 4] |= sign << 24 - j % 4 * 8;
            }
            x.feed(five[0], five[1], five[2], five[3], five[4]);
        }
        x.end(text.length());
    }

    static int law(OneThread x, String text) {
        put(x, text);
        return x.text();
    }

    static void wind(OneThread x, int thread, int... pins) {
        for (int p : pins) x.winding(thread, p);
    }

    /**
     * Numbers outside of low .. high: those beside it, far ones, and those that are inside again if
     * only the lowest 8, 16 or 31 bits are looked at.
     */
    static List<Integer> outside(int low, int high) {
        int[] tries = {
            low - 1, high + 1, low - 2, high + 2, Integer.MIN_VALUE, Integer.MAX_VALUE, -Integer.MAX_VALUE,
            low + 256, high - 256, low + 65536, high - 65536, low + Integer.MIN_VALUE, high + Integer.MIN_VALUE,
        };
        List<Integer> found = new ArrayList<>();
        for (int v : tries) if ((v < low || v > high) && !found.contains(v)) found.add(v);
        return found;
    }
}
