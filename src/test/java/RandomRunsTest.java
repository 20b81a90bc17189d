import java.util.ArrayList;
import java.util.List;
import java.util.Random;

/** Long runs of calls, drawn by a fixed seed, on OneThread and on the plain model: the same answers. */
public final class RandomRunsTest {
    /** 512 calls are promised; one step of a run makes 30 at most. */
    private static final int CALLS = 512 - 30;
    private static int wrong = 0;

    private final Random random;
    private final OneThread real = new OneThread();
    private final PlainThread plain = new PlainThread();
    private final List<String> told = new ArrayList<>();
    private final int style;
    private int calls = 0;
    private boolean failed = false;

    private RandomRunsTest(long seed) {
        random = new Random(seed);
        style = random.nextInt(6);
    }

    public static void main(String[] args) {
        int runs = args.length > 0 ? Integer.parseInt(args[0]) : 250;
        long first = args.length > 1 ? Long.parseLong(args[1]) : 1;
        for (long seed = first; seed < first + runs && wrong < 5; seed++) new RandomRunsTest(seed).run(seed);
        for (long seed = first; seed < first + 40L * runs && wrong < 5; seed++) laws(seed);
        System.out.println(wrong == 0 ? "random runs: the same answers" : "random runs: " + wrong + " runs differ");
        if (wrong != 0) System.exit(1);
    }

    private void due(String call, int got, int want) {
        calls++;
        told.add(call + " -> " + got);
        if (got == want || failed) return;
        failed = true;
        wrong++;
        System.out.println("after " + told.subList(Math.max(0, told.size() - 60), told.size()));
        System.out.println(call + " answered " + got + ", the plain model " + want);
    }

    private void due(String call, boolean got, boolean want) {
        due(call, got ? 1 : 0, want ? 1 : 0);
    }

    /** Mostly from 0 on below n, now and then just beside, or far off. */
    private int below(int n) {
        int chance = random.nextInt(60);
        if (chance == 0) return n;
        if (chance == 1) return -1;
        if (chance == 2) return random.nextBoolean() ? Integer.MIN_VALUE : Integer.MAX_VALUE;
        return n <= 0 ? 0 : random.nextInt(n);
    }

    private void run(long seed) {
        told.add("seed " + seed);
        int s = 2 + random.nextInt(7);
        if (random.nextInt(5) > 0) due("board " + s, real.board(s), plain.board(s));
        int pins = style == 0 ? 2 + random.nextInt(5) : style == 5 ? 60 : 6 + random.nextInt(21);
        for (int i = 0; i < pins; i++) pin();
        if (random.nextBoolean()) picture();
        for (int i = 0; i < CALLS && calls < CALLS && !failed; i++) one();
    }

    private void pin() {
        int x = below(plain.look(0) + 1);
        int y = below(plain.look(0) + 1);
        due("pin " + x + " " + y, real.pin(x, y), plain.pin(x, y));
    }

    private void picture() {
        int p = random.nextInt(4);
        int high = 1 + random.nextInt(200);
        for (int x = 0; x < plain.look(0); x++) {
            for (int y = 0; y < plain.look(0); y++) {
                int v = random.nextInt(high);
                due("want " + p + " " + x + " " + y + " " + v, real.want(p, x, y, v), plain.want(p, x, y, v));
            }
        }
    }

    private void one() {
        int side = plain.look(0);
        int pins = plain.look(1);
        int a = below(pins);
        int b = below(pins);
        int x = below(side);
        int y = below(side);
        int t = style == 1 ? 0 : below(3);
        int p = below(4);
        switch (random.nextInt(style >= 4 ? 60 : 44)) {
            case 0: {
                int v = below(1000);
                due("want " + p + " " + x + " " + y + " " + v, real.want(p, x, y, v), plain.want(p, x, y, v));
                break;
            }
            case 1: {
                int v = below(10);
                due("weight " + x + " " + y + " " + v, real.weight(x, y, v), plain.weight(x, y, v));
                break;
            }
            case 2: {
                if (random.nextInt(4) > 0) break;
                int v = below(10);
                due("shade " + t + " " + v, real.shade(t, v), plain.shade(t, v));
                break;
            }
            case 3: {
                if (random.nextInt(4) > 0) break;
                int n = below(Math.min(6, Math.max(0, plain.wound(t, -1)) + 1));
                due("rub " + t + " " + n, real.rub(t, n), plain.rub(t, n));
                break;
            }
            case 4:
                if (random.nextInt(3) == 0) law(LawWriter.text(random));
                break;
            case 5: {
                int i = below(Math.max(0, plain.wound(t, -1)));
                due("wound " + t + " " + i, real.wound(t, i), plain.wound(t, i));
                break;
            }
            case 6:
                due("dark " + x + " " + y, real.dark(x, y), plain.dark(x, y));
                break;
            case 7:
                due("samples " + a + " " + b + " " + x + " " + y, real.samples(a, b, x, y), plain.samples(a, b, x, y));
                break;
            case 8:
                due("far " + p, real.far(p), plain.far(p));
                break;
            case 9:
                for (int w = -1; w < 3; w++) due("next " + t + " " + p + " " + w, real.next(t, p, w), plain.next(t, p, w));
                break;
            case 10: {
                int n = random.nextInt(4) == 0 ? below(42) : 1 + random.nextInt(5);
                for (int w = 0; w < 3; w++) due("greedy " + t + " " + p + " " + n + " " + w, real.greedy(t, p, n, w), plain.greedy(t, p, n, w));
                break;
            }
            case 11:
                for (int w = 0; w < 4; w++) due("worst " + p + " " + w, real.worst(p, w), plain.worst(p, w));
                break;
            case 12:
                if (random.nextInt(6) == 0) due("clear", real.clear(), plain.clear());
                break;
            case 13:
                for (int w = -1; w < 6; w++) due("thread " + w, real.thread(w), plain.thread(w));
                break;
            case 14:
                order();
                break;
            case 15: {
                int v = random.nextInt(3) == 0 ? below(10000) : random.nextInt(4) == 0 ? -1 : 8 * random.nextInt(4);
                due("tell " + x + " " + y + " " + v, real.tell(x, y, v), plain.tell(x, y, v));
                break;
            }
            case 16:
                if (random.nextInt(3) == 0) tellTruly();
                for (int w = 0; w < 3; w++) due("back " + w, real.back(w), plain.back(w));
                break;
            case 17:
                due("like", real.like(), plain.like());
                break;
            case 18: {
                int k = random.nextInt(4) == 0 ? below(100) : random.nextInt(5);
                int s = random.nextInt(4) == 0 ? below(100) : random.nextInt(5);
                for (int w = 0; w < 2; w++) due("rule " + k + " " + s + " " + w, real.rule(k, s, w), plain.rule(k, s, w));
                due("drawn " + k + " " + s + " " + x + " " + y, real.drawn(k, s, x, y), plain.drawn(k, s, x, y));
                break;
            }
            case 19:
            case 20:
                due("undo", real.undo(), plain.undo());
                break;
            case 21: {
                boolean take = random.nextBoolean();
                if (random.nextInt(4) == 0) due("image " + take, real.image(take), plain.image(take));
                break;
            }
            case 22:
                if (random.nextInt(8) == 0) pin();
                break;
            case 23:
                if (random.nextInt(30) > 0) break;
                due("board " + (x + 1), real.board(x + 1), plain.board(x + 1));
                for (int i = 0; i < 20; i++) pin();
                break;
            case 24:
                look();
                break;
            case 25:
            case 26:
            case 27:
            case 28:
                if (random.nextInt(8) > 0 && plain.look(2) > 11 && style < 3) break;
                due("line " + a + " " + b, real.line(a, b), plain.line(a, b));
                break;
            default:
                due("winding " + t + " " + a, real.winding(t, a), plain.winding(t, a));
        }
    }

    /** Tells the shades that some lines of the set really make, on some squares. */
    private void tellTruly() {
        int side = plain.look(0);
        int lines = plain.look(2);
        if (lines > 12) return;
        OneThread other = new OneThread();
        other.board(side);
        int pins = plain.look(1);
        for (int i = 0; i < pins; i++) other.pin(plain.look(20 + i) % 10, plain.look(20 + i) / 10);
        for (int i = 0; i < 4 && pins > 1; i++) {
            int a = random.nextInt(pins);
            int b = random.nextInt(pins);
            due("line " + a + " " + b, real.line(a, b), plain.line(a, b));
            other.rub(0, other.wound(0, -1));
            other.winding(0, a);
            other.winding(0, b);
            int x = random.nextInt(side);
            int y = random.nextInt(side);
            int v = other.dark(x, y);
            due("tell " + x + " " + y + " " + v, real.tell(x, y, v), plain.tell(x, y, v));
        }
    }

    private void order() {
        // the plain model tries all rows: keep to sets for which that ends soon
        if (plain.look(2) > 14) return;
        for (int i = -1; i < 8; i++) due("order " + i, real.order(i), plain.order(i));
        int i = below(16);
        due("order " + i, real.order(i), plain.order(i));
    }

    private void look() {
        for (int w = -1; w < 7; w++) due("look " + w, real.look(w), plain.look(w));
        int w = below(46);
        due("look " + w, real.look(w), plain.look(w));
        for (int f = -1; f < 3; f++) due("fault " + f, real.fault(f), plain.fault(f));
    }

    private void law(String text) {
        int[] five = new int[5];
        for (int i = 0; i < text.length(); i += 20) {
            for (int j = 0; j < 5; j++) {
                five[j] = 0;
                for (int k = 0; k < 4; k++) {
                    int at = i + 4 * j + k;
                    five[j] = five[j] << 8 | (at < text.length() ? text.charAt(at) : ' ');
                }
            }
            due("feed", real.feed(five[0], five[1], five[2], five[3], five[4]), plain.feed(five));
        }
        due("end " + text.length(), real.end(text.length()), plain.end(text.length()));
        due("text \"" + text + "\"", real.text(), plain.text());
        for (int f = 0; f < 2; f++) due("fault " + f, real.fault(f), plain.fault(f));
    }

    /** Laws alone, many of them, and where a thread may go by each. */
    private static void laws(long seed) {
        RandomRunsTest test = new RandomRunsTest(seed);
        for (int i = 0; i < 5; i++) test.pin();
        for (int i = 0; i < 6; i++) {
            int t = test.random.nextInt(3);
            int p = test.random.nextInt(5);
            test.due("winding", test.real.winding(t, p), test.plain.winding(t, p));
        }
        for (int i = 0; i < 4; i++) {
            test.law(LawWriter.text(test.random));
            for (int t = 0; t < 3; t++) {
                for (int p = 0; p < 5; p++) {
                    int got = test.real.winding(t, p);
                    test.due("winding " + t + " " + p, got, test.plain.winding(t, p));
                    if (got > 0 && test.random.nextBoolean()) test.due("undo", test.real.undo(), test.plain.undo());
                }
            }
        }
    }
}
