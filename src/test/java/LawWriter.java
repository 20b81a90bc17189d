import java.util.Random;

/** Writes laws by chance, most of them right, some spoilt at a place. */
final class LawWriter {
    private static final String[] FACTS = {"from", "to", "length", "used", "thread", "wound", "turn", "shade"};
    private static final String[] PIECES = {
        "may", "bar", "when", "or", "and", "not", ";", "+", "-", "*", "/", "(", ")", "<", "=", ">", "0", "00", "12345",
        "9999", "from", "shade", "mayb", "Bar", "\n", "\t", "!", "x", "\u00e9", "/0", "not not", "((", "may;may;may;may;"};

    private final Random random;
    private final StringBuilder text = new StringBuilder();

    private LawWriter(Random random) {
        this.random = random;
    }

    static String text(Random random) {
        LawWriter writer = new LawWriter(random);
        int lines = random.nextInt(8) == 0 ? 14 + random.nextInt(5) : random.nextInt(4);
        int depth = lines > 4 ? 0 : random.nextInt(4);
        for (int i = 0; i < lines; i++) writer.line(depth, lines > 4);
        if (random.nextInt(12) == 0) writer.deep();
        String text = writer.text.toString();
        if (random.nextInt(3) == 0) text = spoilt(random, text);
        return text.length() > 400 ? text.substring(0, 400) : text;
    }

    private static String spoilt(Random random, String text) {
        int from = random.nextInt(text.length() + 1);
        int to = Math.min(text.length(), from + random.nextInt(3));
        String piece = random.nextInt(3) == 0 ? "" : PIECES[random.nextInt(PIECES.length)];
        return text.substring(0, from) + piece + text.substring(to);
    }

    private void put(String piece) {
        char last = text.length() == 0 ? ' ' : text.charAt(text.length() - 1);
        boolean needed = Character.isLetter(last) && Character.isLetter(piece.charAt(0))
            || Character.isDigit(last) && Character.isDigit(piece.charAt(0));
        if (needed || random.nextInt(8) == 0) text.append(random.nextInt(5) == 0 ? '\n' : ' ');
        text.append(piece);
    }

    private void line(int depth, boolean shortly) {
        put(random.nextBoolean() ? "may" : "bar");
        if (random.nextInt(shortly ? 3 : 6) > 0 == !shortly) {
            put("when");
            any(depth);
        }
        put(";");
    }

    /** Brackets and nots about as deep as they may be. */
    private void deep() {
        put("bar");
        put("when");
        int deep = 7 + random.nextInt(3);
        boolean[] bracket = new boolean[deep];
        for (int i = 0; i < deep; i++) {
            bracket[i] = random.nextBoolean();
            put(bracket[i] ? "(" : "not");
            if (bracket[i] && random.nextInt(4) == 0) {
                put("not");
                comparison();
                put("or");
            }
        }
        comparison();
        for (int i = 0; i < deep; i++) if (bracket[i]) put(")");
        put(";");
    }

    private void any(int depth) {
        all(depth);
        while (random.nextInt(4) == 0) {
            put("or");
            all(depth);
        }
    }

    private void all(int depth) {
        one(depth);
        while (random.nextInt(4) == 0) {
            put("and");
            one(depth);
        }
    }

    private void one(int depth) {
        int chance = depth <= 0 ? 9 : random.nextInt(5);
        if (chance == 0) {
            put("not");
            one(depth - 1);
        } else if (chance == 1) {
            put("(");
            any(depth - 1);
            put(")");
        } else {
            comparison();
        }
    }

    private void comparison() {
        sum();
        put(new String[] {"<", "=", ">"}[random.nextInt(3)]);
        sum();
    }

    private void sum() {
        product();
        while (random.nextInt(3) == 0) {
            put(random.nextBoolean() ? "+" : "-");
            product();
        }
    }

    private void product() {
        operand();
        while (random.nextInt(3) == 0) {
            if (random.nextBoolean()) {
                put("*");
                operand();
            } else {
                put("/");
                put(Integer.toString(random.nextInt(9)));
            }
        }
    }

    private void operand() {
        if (random.nextInt(3) == 0) put(Integer.toString(random.nextInt(10) == 0 ? random.nextInt(10000) : random.nextInt(4)));
        else put(FACTS[random.nextInt(FACTS.length)]);
    }
}
