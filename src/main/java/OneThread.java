import java.util.Arrays;

/**
 * A board of squares with pins at their corners and threads wound from pin to pin, so that the
 * board is as dark as a picture. ../shared/DOC.md says what each call answers.
 */
public final class OneThread {
    public static final int NONE = -1;

    private static final int BARRED = -2;
    private static final int NO_NEXT = NONE - 999999;
    private static final int NO_BACK = NONE - 1;
    private static final int FIRST_SIDE = 4;
    private static final int LEAST_SIDE = 2;
    private static final int SIDE = 8;
    private static final int SQUARES = SIDE * SIDE;
    private static final int MOST_PINS = 24;
    private static final int THREADS = 3;
    private static final int PICTURES = 4;
    private static final int MOST_WOUND = 120;
    private static final int MOST_WANT = 999;
    private static final int MOST_DIGIT = 9;
    private static final int MOST_TOLD = 9999;
    private static final int MOST_BYTES = 400;
    private static final int FED = 20;
    private static final int MOST_GREEDY = 40;
    private static final int MOST_UNDO = 40;
    private static final int MOST_SET = 20;
    private static final int MOST_BACK = 12;
    private static final int MOST_ODD = 12;
    private static final int MOST_RULE = 99;

    private final Told now = new Told();
    private final Told kept = new Told();
    private boolean hasImage;
    private final Cloth cloth = new Cloth(now);
    private final Seeker seeker = new Seeker(now, cloth);
    private final Net net = new Net(now);
    private final Guess guess = new Guess(now, cloth.chords);
    private final Pattern pattern = new Pattern(now, cloth.chords);
    private final LawReader reader = new LawReader();
    private final int[] tape = new int[MOST_BYTES];
    private int taped;
    private int faultKind;
    private int faultPlace = NONE;
    private final int[] undoThreads = new int[MOST_UNDO];
    private int undos;

    public OneThread() {
    }

    public boolean board(int s) {
        if (s < LEAST_SIDE || s > SIDE) {
            return false;
        }
        now.asAtFirst(s);
        cloth.renew();
        undos = 0;
        return true;
    }

    public int pin(int x, int y) {
        if (!now.isPoint(x, y) || now.hasPinAt(x, y) || now.pins >= MOST_PINS) {
            return NONE;
        }
        int number = now.pins;
        now.pinX[number] = x;
        now.pinY[number] = y;
        now.pins = number + 1;
        undos = 0;
        return number;
    }

    public boolean want(int picture, int x, int y, int v) {
        int square = now.squareAt(x, y);
        if (!isPicture(picture) || square == NONE || v < 0 || v > MOST_WANT) {
            return false;
        }
        now.wants[picture * SQUARES + square] = v;
        return true;
    }

    public boolean weight(int x, int y, int v) {
        int square = now.squareAt(x, y);
        if (square == NONE || v < 0 || v > MOST_DIGIT) {
            return false;
        }
        now.weights[square] = v;
        return true;
    }

    public boolean shade(int thread, int v) {
        if (!isThread(thread) || v < 0 || v > MOST_DIGIT) {
            return false;
        }
        now.shades[thread] = v;
        cloth.tally();
        undos = 0;
        return true;
    }

    public int winding(int thread, int pin) {
        if (!isThread(thread) || !now.isPin(pin) || now.isFull(thread) || now.lastPin(thread) == pin) {
            return NONE;
        }
        if (!cloth.mayGo(thread, pin)) {
            return BARRED;
        }
        cloth.goOn(thread, pin);
        keepForUndo(thread);
        return now.counts[thread];
    }

    public int rub(int thread, int n) {
        if (!isThread(thread) || n < 0 || n > now.counts[thread]) {
            return NONE;
        }
        for (int i = 0; i < n; i++) {
            cloth.goBack(thread);
        }
        undos = 0;
        return now.counts[thread];
    }

    public int feed(int a, int b, int c, int d, int e) {
        if (taped + FED > MOST_BYTES) {
            return NONE;
        }
        putBytes(a);
        putBytes(b);
        putBytes(c);
        putBytes(d);
        putBytes(e);
        return taped;
    }

    public boolean end(int n) {
        if (n < 0 || n > taped) {
            return false;
        }
        taped = n;
        return true;
    }

    public int text() {
        reader.read(tape, taped);
        taped = 0;
        faultKind = reader.fault;
        faultPlace = reader.place;
        if (faultKind != 0) {
            return NONE;
        }
        now.law.takeFrom(reader.draft);
        return now.law.lines;
    }

    public int fault(int what) {
        switch (what) {
            case 0:
                return faultKind;
            case 1:
                return faultPlace;
            default:
                return NONE;
        }
    }

    public int wound(int thread, int i) {
        if (!isThread(thread)) {
            return NONE;
        }
        if (i == NONE) {
            return now.counts[thread];
        }
        return i >= 0 && i < now.counts[thread] ? now.rows[thread * MOST_WOUND + i] : NONE;
    }

    public int dark(int x, int y) {
        int square = now.squareAt(x, y);
        return square == NONE ? NONE : cloth.darks[square];
    }

    public int samples(int a, int b, int x, int y) {
        int square = now.squareAt(x, y);
        if (!now.isLine(a, b) || square == NONE) {
            return NONE;
        }
        return cloth.chords.samplesIn(a, b, square);
    }

    public int far(int picture) {
        return isPicture(picture) ? cloth.farOf(picture) : NONE;
    }

    public int next(int thread, int picture, int what) {
        if (!isThread(thread) || !isPicture(picture) || what < 0 || what > 1) {
            return NO_NEXT;
        }
        seeker.seekNext(thread, picture);
        return what == 0 ? seeker.bestPin : seeker.bestGain;
    }

    public int greedy(int thread, int picture, int n, int what) {
        if (!isThread(thread) || !isPicture(picture) || n < 1 || n > MOST_GREEDY) {
            return NONE;
        }
        if (what < 0 || what > 2) {
            return NONE;
        }
        return seeker.goGreedily(thread, picture, n, what);
    }

    public int worst(int picture, int what) {
        if (!isPicture(picture)) {
            return NONE;
        }
        seeker.seekWorst(picture);
        if (seeker.bestThread == NONE) {
            return NONE;
        }
        switch (what) {
            case 0:
                return seeker.bestThread;
            case 1:
                return seeker.bestPlace;
            case 2:
                return seeker.bestGain;
            default:
                return NONE;
        }
    }

    public int line(int a, int b) {
        if (!now.isLine(a, b) || now.lines >= MOST_SET || now.hasInSet(a, b)) {
            return NONE;
        }
        int number = now.lines;
        now.setA[number] = a;
        now.setB[number] = b;
        now.lines = number + 1;
        return number;
    }

    public int clear() {
        int had = now.lines;
        now.lines = 0;
        return had;
    }

    public int thread(int what) {
        net.knot();
        switch (what) {
            case 0:
                return net.threads;
            case 1:
                return Math.max(net.threads - 1, 0);
            case 2:
                return net.shortestMore();
            case 3:
                return net.odds;
            case 4:
                return net.parts;
            default:
                return NONE;
        }
    }

    public int order(int i) {
        net.knot();
        if (net.threads != 1 || i < 0 || i > now.lines) {
            return NONE;
        }
        return net.pinOnWay(i);
    }

    public boolean tell(int x, int y, int v) {
        int square = now.squareAt(x, y);
        if (square == NONE || v < NONE || v > MOST_TOLD) {
            return false;
        }
        now.tolds[square] = v;
        return true;
    }

    public int back(int what) {
        if (now.lines > MOST_BACK || what < 0 || what > 2) {
            return NO_BACK;
        }
        guess.tryAll();
        switch (what) {
            case 0:
                return guess.count;
            case 1:
                return guess.first;
            default:
                return guess.inAll;
        }
    }

    public int like() {
        int best = 0;
        int least = cloth.farOf(0);
        for (int picture = 1; picture < PICTURES; picture++) {
            int far = cloth.farOf(picture);
            if (far < least) {
                least = far;
                best = picture;
            }
        }
        return best;
    }

    public int rule(int k, int s, int what) {
        if (!isRule(k, s) || what < 0 || what > 1) {
            return NONE;
        }
        pattern.draw(k, s);
        return what == 0 ? pattern.lines : pattern.leastTurn();
    }

    public int drawn(int k, int s, int x, int y) {
        int square = now.squareAt(x, y);
        if (!isRule(k, s) || square == NONE) {
            return NONE;
        }
        pattern.draw(k, s);
        return pattern.darkOf(square);
    }

    public boolean undo() {
        if (undos <= 0) {
            return false;
        }
        undos--;
        cloth.goBack(undoThreads[undos]);
        return true;
    }

    public boolean image(boolean taken) {
        if (taken) {
            kept.takeFrom(now);
            hasImage = true;
            return true;
        }
        if (!hasImage) {
            return false;
        }
        now.takeFrom(kept);
        cloth.renew();
        undos = 0;
        return true;
    }

    public int look(int what) {
        switch (what) {
            case 0:
                return now.side;
            case 1:
                return now.pins;
            case 2:
                return now.lines;
            case 3:
                return now.law.lines;
            case 4:
                return undos;
            case 5:
                return now.lengthOfAll();
            default:
                return lookAtOne(what);
        }
    }

    private int lookAtOne(int what) {
        if (what >= 10 && isThread(what - 10)) {
            return now.shades[what - 10];
        }
        if (what >= 20 && now.isPin(what - 20)) {
            return now.pinX[what - 20] + 10 * now.pinY[what - 20];
        }
        return NONE;
    }

    private static boolean isThread(int thread) {
        return thread >= 0 && thread < THREADS;
    }

    private static boolean isPicture(int picture) {
        return picture >= 0 && picture < PICTURES;
    }

    private boolean isRule(int k, int s) {
        return now.pins > 0 && k >= 0 && k <= MOST_RULE && s >= 0 && s <= MOST_RULE;
    }

    private void putBytes(int word) {
        for (int shift = 24; shift >= 0 && taped < MOST_BYTES; shift -= 8) {
            tape[taped] = (word >>> shift) & 255;
            taped++;
        }
    }

    /** The oldest goes when there are as many as are kept. */
    private void keepForUndo(int thread) {
        if (undos >= MOST_UNDO) {
            System.arraycopy(undoThreads, 1, undoThreads, 0, MOST_UNDO - 1);
            undos = MOST_UNDO - 1;
        }
        undoThreads[undos] = thread;
        undos++;
    }

    /** All that is told and that THE IMAGE holds. Squares are numbered x + 8 y on every board. */
    private static final class Told {
        final int[] pinX = new int[MOST_PINS];
        final int[] pinY = new int[MOST_PINS];
        final int[] wants = new int[PICTURES * SQUARES];
        final int[] weights = new int[SQUARES];
        final int[] shades = new int[THREADS];
        final int[] rows = new int[THREADS * MOST_WOUND];
        final int[] counts = new int[THREADS];
        final int[] setA = new int[MOST_SET];
        final int[] setB = new int[MOST_SET];
        final int[] tolds = new int[SQUARES];
        final Law law = new Law();
        int side;
        int pins;
        int lines;

        Told() {
            asAtFirst(FIRST_SIDE);
        }

        void asAtFirst(int newSide) {
            side = newSide;
            pins = 0;
            lines = 0;
            law.lines = 0;
            Arrays.fill(wants, 0);
            Arrays.fill(weights, 1);
            Arrays.fill(tolds, NONE);
            for (int thread = 0; thread < THREADS; thread++) {
                shades[thread] = thread + 1;
                counts[thread] = 0;
            }
        }

        void takeFrom(Told other) {
            side = other.side;
            pins = other.pins;
            lines = other.lines;
            law.takeFrom(other.law);
            System.arraycopy(other.pinX, 0, pinX, 0, MOST_PINS);
            System.arraycopy(other.pinY, 0, pinY, 0, MOST_PINS);
            System.arraycopy(other.wants, 0, wants, 0, PICTURES * SQUARES);
            System.arraycopy(other.weights, 0, weights, 0, SQUARES);
            System.arraycopy(other.shades, 0, shades, 0, THREADS);
            System.arraycopy(other.rows, 0, rows, 0, THREADS * MOST_WOUND);
            System.arraycopy(other.counts, 0, counts, 0, THREADS);
            System.arraycopy(other.setA, 0, setA, 0, MOST_SET);
            System.arraycopy(other.setB, 0, setB, 0, MOST_SET);
            System.arraycopy(other.tolds, 0, tolds, 0, SQUARES);
        }

        boolean isPoint(int x, int y) {
            return x >= 0 && x <= side && y >= 0 && y <= side;
        }

        boolean hasPinAt(int x, int y) {
            for (int i = 0; i < pins; i++) {
                if (pinX[i] == x && pinY[i] == y) {
                    return true;
                }
            }
            return false;
        }

        int squareAt(int x, int y) {
            return x >= 0 && x < side && y >= 0 && y < side ? x + SIDE * y : NONE;
        }

        boolean isPin(int number) {
            return number >= 0 && number < pins;
        }

        boolean isLine(int a, int b) {
            return isPin(a) && isPin(b) && a != b;
        }

        boolean hasInSet(int a, int b) {
            for (int i = 0; i < lines; i++) {
                if (setA[i] == a && setB[i] == b || setA[i] == b && setB[i] == a) {
                    return true;
                }
            }
            return false;
        }

        boolean isFull(int thread) {
            return counts[thread] >= MOST_WOUND;
        }

        /** The pin that stands so many from the end of a winding, the last one being 1. */
        int pinFromEnd(int thread, int many) {
            int place = counts[thread] - many;
            return place >= 0 ? rows[thread * MOST_WOUND + place] : NONE;
        }

        int lastPin(int thread) {
            return pinFromEnd(thread, 1);
        }

        int lengthOf(int a, int b) {
            return Math.max(Math.abs(pinX[a] - pinX[b]), Math.abs(pinY[a] - pinY[b]));
        }

        int lengthOfAll() {
            int sum = 0;
            for (int thread = 0; thread < THREADS; thread++) {
                int first = thread * MOST_WOUND;
                for (int i = 1; i < counts[thread]; i++) {
                    sum += lengthOf(rows[first + i - 1], rows[first + i]);
                }
            }
            return sum;
        }
    }

    /**
     * The samples of every line of two pins, measured when a line is first asked for and kept: a
     * row of cells, each a square and how many middles are in it.
     */
    private static final class Chords {
        static final int MOST = MOST_PINS * (MOST_PINS - 1) / 2;
        /** A line across eight by eight goes through 14 squares at most. */
        static final int ROW = 16;
        static final int PARTS = 8;
        /** A square is one long, so a line has no more middles in it than parts for each length. */
        static final int BASE = 16;

        final Told told;
        final int[] cells = new int[MOST * ROW];
        final int[] sizes = new int[MOST];

        Chords(Told told) {
            this.told = told;
        }

        void forget() {
            Arrays.fill(sizes, 0);
        }

        static int numberOf(int a, int b) {
            int high = Math.max(a, b);
            return high * (high - 1) / 2 + Math.min(a, b);
        }

        /** The number of the line of two unlike pins, whose cells stand then. */
        int measured(int a, int b) {
            int chord = numberOf(a, b);
            if (sizes[chord] == 0) {
                measure(chord, Math.min(a, b), Math.max(a, b));
            }
            return chord;
        }

        private void measure(int chord, int a, int b) {
            int parts = PARTS * told.lengthOf(a, b);
            int first = chord * ROW;
            int size = 0;
            int square = NONE;
            for (int i = 0; i < parts; i++) {
                int x = middle(told.pinX[a], told.pinX[b], i, parts);
                int y = middle(told.pinY[a], told.pinY[b], i, parts);
                if (x + SIDE * y != square && size < ROW) {
                    square = x + SIDE * y;
                    cells[first + size] = square * BASE;
                    size++;
                }
                cells[first + size - 1]++;
            }
            sizes[chord] = size;
        }

        private int middle(int from, int to, int i, int parts) {
            int whole = Math.floorDiv(from * 2 * parts + (to - from) * (2 * i + 1), 2 * parts);
            return Math.min(whole, told.side - 1);
        }

        int sizeOf(int chord) {
            return sizes[chord];
        }

        int squareOf(int chord, int cell) {
            return cells[chord * ROW + cell] / BASE;
        }

        int middlesOf(int chord, int cell) {
            return cells[chord * ROW + cell] % BASE;
        }

        int samplesIn(int a, int b, int square) {
            int chord = measured(a, b);
            for (int i = 0; i < sizes[chord]; i++) {
                if (squareOf(chord, i) == square) {
                    return middlesOf(chord, i);
                }
            }
            return 0;
        }
    }

    /** What follows from the windings: how dark each square is, and how often each line is there. */
    private static final class Cloth {
        final Told told;
        final Chords chords;
        final int[] darks = new int[SQUARES];
        final int[] uses = new int[Chords.MOST];
        final int[] facts = new int[Law.FACTS];

        Cloth(Told told) {
            this.told = told;
            this.chords = new Chords(told);
        }

        void renew() {
            chords.forget();
            tally();
        }

        void tally() {
            Arrays.fill(darks, 0);
            Arrays.fill(uses, 0);
            for (int thread = 0; thread < THREADS; thread++) {
                int first = thread * MOST_WOUND;
                for (int i = 1; i < told.counts[thread]; i++) {
                    lay(thread, told.rows[first + i - 1], told.rows[first + i], 1);
                }
            }
        }

        private void lay(int thread, int a, int b, int times) {
            int chord = chords.measured(a, b);
            int shade = told.shades[thread] * times;
            for (int i = 0; i < chords.sizeOf(chord); i++) {
                darks[chords.squareOf(chord, i)] += shade * chords.middlesOf(chord, i);
            }
            uses[chord] += times;
        }

        void goOn(int thread, int pin) {
            if (told.isFull(thread)) {
                return;
            }
            int from = told.lastPin(thread);
            if (from != NONE) {
                lay(thread, from, pin, 1);
            }
            told.rows[thread * MOST_WOUND + told.counts[thread]] = pin;
            told.counts[thread]++;
        }

        void goBack(int thread) {
            int from = told.pinFromEnd(thread, 2);
            if (from != NONE) {
                lay(thread, from, told.lastPin(thread), -1);
            }
            told.counts[thread] = Math.max(told.counts[thread] - 1, 0);
        }

        boolean mayGo(int thread, int pin) {
            int from = told.lastPin(thread);
            if (from == pin || told.isFull(thread)) {
                return false;
            }
            if (from == NONE || told.law.lines == 0) {
                return true;
            }
            facts[Law.FROM] = from;
            facts[Law.TO] = pin;
            facts[Law.LENGTH] = told.lengthOf(from, pin);
            facts[Law.USED] = uses[Chords.numberOf(from, pin)];
            facts[Law.THREAD] = thread;
            facts[Law.WOUND] = told.counts[thread];
            facts[Law.TURN] = told.pinFromEnd(thread, 2) == pin ? 1 : 0;
            facts[Law.SHADE] = told.shades[thread];
            return told.law.allows(facts);
        }

        /** Squares that this board has not want nothing and are not dark: they add nothing. */
        int farOf(int picture) {
            int first = picture * SQUARES;
            int sum = 0;
            for (int i = 0; i < SQUARES; i++) {
                sum += told.weights[i] * Math.abs(told.wants[first + i] - darks[i]);
            }
            return sum;
        }

        /** By how much FAR were less, if the line were there once more with this shade. */
        int gainBy(int picture, int chord, int shade) {
            int first = picture * SQUARES;
            int sum = 0;
            for (int i = 0; i < chords.sizeOf(chord); i++) {
                int square = chords.squareOf(chord, i);
                int off = told.wants[first + square] - darks[square];
                int then = off - shade * chords.middlesOf(chord, i);
                sum += told.weights[square] * (Math.abs(off) - Math.abs(then));
            }
            return sum;
        }
    }

    /** Finds the next pin that helps most, and the line that were better gone. */
    private static final class Seeker {
        final Told told;
        final Cloth cloth;
        int bestPin;
        int bestThread;
        int bestPlace;
        int bestGain;

        Seeker(Told told, Cloth cloth) {
            this.told = told;
            this.cloth = cloth;
        }

        void seekNext(int thread, int picture) {
            bestPin = NONE;
            bestGain = 0;
            int from = told.lastPin(thread);
            if (from == NONE) {
                return;
            }
            for (int to = 0; to < told.pins; to++) {
                if (cloth.mayGo(thread, to)) {
                    int chord = cloth.chords.measured(from, to);
                    int gain = cloth.gainBy(picture, chord, told.shades[thread]);
                    if (bestPin == NONE || gain > bestGain) {
                        bestPin = to;
                        bestGain = gain;
                    }
                }
            }
        }

        /** What is gone on in thought is gone back before the answer. */
        int goGreedily(int thread, int picture, int most, int what) {
            int steps = 0;
            for (int i = 0; i < most; i++) {
                seekNext(thread, picture);
                if (bestPin == NONE || bestGain <= 0) {
                    break;
                }
                cloth.goOn(thread, bestPin);
                steps++;
            }
            int far = cloth.farOf(picture);
            int last = told.lastPin(thread);
            for (int i = 0; i < steps; i++) {
                cloth.goBack(thread);
            }
            return what == 0 ? steps : what == 1 ? far : last;
        }

        void seekWorst(int picture) {
            bestThread = NONE;
            bestPlace = NONE;
            bestGain = 0;
            for (int thread = 0; thread < THREADS; thread++) {
                int first = thread * MOST_WOUND;
                for (int i = 1; i < told.counts[thread]; i++) {
                    int chord = cloth.chords.measured(told.rows[first + i - 1], told.rows[first + i]);
                    int gain = cloth.gainBy(picture, chord, -told.shades[thread]);
                    if (gain > bestGain) {
                        bestThread = thread;
                        bestPlace = i - 1;
                        bestGain = gain;
                    }
                }
            }
        }
    }

    /** The lines of THE SET as a net: for each pin the pins to which a line goes, as bits. */
    private static final class Net {
        final Told told;
        final int[] joined = new int[MOST_PINS];
        final int[] oddPins = new int[MOST_PINS];
        int[] least = new int[1];
        int threads;
        int odds;
        int parts;

        Net(Told told) {
            this.told = told;
        }

        /** Makes the net anew and counts its parts, its odd pins and the threads it needs. */
        void knot() {
            Arrays.fill(joined, 0);
            for (int i = 0; i < told.lines; i++) {
                flip(told.setA[i], told.setB[i]);
            }
            threads = 0;
            odds = 0;
            parts = 0;
            int seen = 0;
            for (int pin = 0; pin < MOST_PINS; pin++) {
                if (joined[pin] != 0 && (seen >> pin & 1) == 0) {
                    int part = partOf(pin);
                    seen |= part;
                    parts++;
                    threads += Math.max(noteOdds(part) / 2, 1);
                }
            }
        }

        private void flip(int a, int b) {
            joined[a] ^= 1 << b;
            joined[b] ^= 1 << a;
        }

        private boolean isOdd(int pin) {
            return (Integer.bitCount(joined[pin]) & 1) == 1;
        }

        private int noteOdds(int part) {
            int had = odds;
            for (int pin = 0; pin < MOST_PINS; pin++) {
                if ((part >> pin & 1) == 1 && isOdd(pin) && odds < MOST_PINS) {
                    oddPins[odds] = pin;
                    odds++;
                }
            }
            return odds - had;
        }

        /** All pins that hang together with one, itself too, as bits. */
        private int partOf(int pin) {
            int part = 1 << pin;
            for (int round = 0; round < MOST_PINS; round++) {
                int wider = part;
                for (int i = 0; i < MOST_PINS; i++) {
                    if ((part >> i & 1) == 1) {
                        wider |= joined[i];
                    }
                }
                if (wider == part) {
                    break;
                }
                part = wider;
            }
            return part;
        }

        int shortestMore() {
            if (parts != 1 || odds > MOST_ODD) {
                return NONE;
            }
            if (odds == 0) {
                return 0;
            }
            fillLeast();
            int all = (1 << odds) - 1;
            int best = NONE;
            for (int i = 0; i < odds; i++) {
                for (int j = i + 1; j < odds; j++) {
                    int length = least[all ^ 1 << i ^ 1 << j];
                    if (best == NONE || length < best) {
                        best = length;
                    }
                }
            }
            return best;
        }

        /** For each even choice of odd pins, as bits, the least length that joins them in pairs. */
        private void fillLeast() {
            int many = 1 << odds;
            if (least.length < many) {
                least = new int[many];
            }
            least[0] = 0;
            for (int choice = 1; choice < many; choice++) {
                if ((Integer.bitCount(choice) & 1) == 0) {
                    least[choice] = leastOf(choice);
                }
            }
        }

        private int leastOf(int choice) {
            int i = 0;
            while (i < odds - 1 && (choice >> i & 1) == 0) {
                i++;
            }
            int best = NONE;
            for (int j = i + 1; j < odds; j++) {
                if ((choice >> j & 1) == 1) {
                    int length = told.lengthOf(oddPins[i], oddPins[j]) + least[choice ^ 1 << i ^ 1 << j];
                    if (best == NONE || length < best) {
                        best = length;
                    }
                }
            }
            return best;
        }

        /** The i-th pin of ORDER, if one thread is enough; the net is used up by it. */
        int pinOnWay(int i) {
            int at = startOfWay();
            for (int step = 0; step < i && at != NONE; step++) {
                at = stepFrom(at);
            }
            return at;
        }

        private int startOfWay() {
            if (odds > 0) {
                return oddPins[0];
            }
            for (int pin = 0; pin < MOST_PINS; pin++) {
                if (joined[pin] != 0) {
                    return pin;
                }
            }
            return NONE;
        }

        /** Goes to the least pin from which all lines that are left can still be gone through. */
        private int stepFrom(int at) {
            for (int to = 0; to < MOST_PINS; to++) {
                if ((joined[at] >> to & 1) == 1) {
                    flip(at, to);
                    if (restHangsAt(to)) {
                        return to;
                    }
                    flip(at, to);
                }
            }
            return NONE;
        }

        private boolean restHangsAt(int pin) {
            int part = partOf(pin);
            for (int i = 0; i < MOST_PINS; i++) {
                if (joined[i] != 0 && (part >> i & 1) == 0) {
                    return false;
                }
            }
            return true;
        }
    }

    /** Tries which lines of THE SET make just the shades that are told. */
    private static final class Guess {
        final Told told;
        final Chords chords;
        /** What each square with a shade told still lacks. */
        final int[] lacks = new int[SQUARES];
        int lacking;
        int over;
        int count;
        int first;
        int inAll;

        Guess(Told told, Chords chords) {
            this.told = told;
            this.chords = chords;
        }

        void tryAll() {
            lacking = 0;
            over = 0;
            for (int i = 0; i < SQUARES; i++) {
                lacks[i] = Math.max(told.tolds[i], 0);
                if (lacks[i] != 0) {
                    lacking++;
                }
            }
            count = 0;
            first = NONE;
            inAll = 0;
            choose(Math.min(told.lines, MOST_BACK) - 1, 0);
        }

        /** The highest line first, and without it first: so the sets come by rising numbers. */
        private void choose(int line, int chosen) {
            if (line < 0) {
                if (lacking == 0) {
                    note(chosen);
                }
                return;
            }
            choose(line - 1, chosen);
            take(line, -1);
            if (over == 0) {
                choose(line - 1, chosen | 1 << line);
            }
            take(line, 1);
        }

        private void note(int chosen) {
            if (count == 0) {
                first = chosen;
                inAll = chosen;
            }
            inAll &= chosen;
            count++;
        }

        private void take(int line, int sign) {
            int chord = chords.measured(told.setA[line], told.setB[line]);
            for (int i = 0; i < chords.sizeOf(chord); i++) {
                int square = chords.squareOf(chord, i);
                if (told.tolds[square] != NONE) {
                    shift(square, sign * chords.middlesOf(chord, i));
                }
            }
        }

        private void shift(int square, int by) {
            int was = lacks[square];
            int is = was + by;
            lacks[square] = is;
            lacking += (is != 0 ? 1 : 0) - (was != 0 ? 1 : 0);
            over += (is < 0 ? 1 : 0) - (was < 0 ? 1 : 0);
        }
    }

    /** The lines by a rule: for each pin the greater pins to which a line goes, as bits. */
    private static final class Pattern {
        final Told told;
        final Chords chords;
        final int[] higher = new int[MOST_PINS];
        int lines;

        Pattern(Told told, Chords chords) {
            this.told = told;
            this.chords = chords;
        }

        void draw(int k, int s) {
            Arrays.fill(higher, 0);
            lines = 0;
            for (int i = 0; i < told.pins; i++) {
                int to = (k * i + s) % told.pins;
                if (to != i && !hasLine(i, to)) {
                    higher[Math.min(i, to)] |= 1 << Math.max(i, to);
                    lines++;
                }
            }
        }

        private boolean hasLine(int a, int b) {
            return (higher[Math.min(a, b)] >> Math.max(a, b) & 1) == 1;
        }

        int leastTurn() {
            for (int t = 1; t < told.pins; t++) {
                if (isSameTurned(t)) {
                    return t;
                }
            }
            return told.pins;
        }

        /** As many lines before as after: they are the same if each is turned to one of them. */
        private boolean isSameTurned(int t) {
            for (int a = 0; a < told.pins; a++) {
                for (int b = a + 1; b < told.pins; b++) {
                    if (hasLine(a, b) && !hasLine((a + t) % told.pins, (b + t) % told.pins)) {
                        return false;
                    }
                }
            }
            return true;
        }

        int darkOf(int square) {
            int sum = 0;
            for (int a = 0; a < told.pins; a++) {
                for (int b = a + 1; b < told.pins; b++) {
                    if (hasLine(a, b)) {
                        sum += chords.samplesIn(a, b, square);
                    }
                }
            }
            return sum;
        }
    }

    /**
     * THE LAW as it was read: for each line its verdict and its condition, an operator behind what
     * it is for. In the code a number of the text is itself, a fact lies above all numbers, and an
     * operator is its token below 0.
     */
    private static final class Law {
        static final int FROM = 0;
        static final int TO = 1;
        static final int LENGTH = 2;
        static final int USED = 3;
        static final int THREAD = 4;
        static final int WOUND = 5;
        static final int TURN = 6;
        static final int SHADE = 7;
        static final int FACTS = 8;
        static final int MOST_LINES = 16;
        static final int FACT = 10000;
        /** Two for each of eight open brackets and six for what stands inside the last. */
        static final int STACK = 32;

        final int[] code = new int[MOST_BYTES];
        final int[] ends = new int[MOST_LINES];
        final boolean[] verdicts = new boolean[MOST_LINES];
        final int[] stack = new int[STACK];
        int lines;

        void takeFrom(Law other) {
            lines = other.lines;
            System.arraycopy(other.code, 0, code, 0, MOST_BYTES);
            System.arraycopy(other.ends, 0, ends, 0, MOST_LINES);
            System.arraycopy(other.verdicts, 0, verdicts, 0, MOST_LINES);
        }

        boolean allows(int[] facts) {
            int start = 0;
            for (int i = 0; i < lines; i++) {
                if (holds(start, ends[i], facts)) {
                    return verdicts[i];
                }
                start = ends[i];
            }
            return true;
        }

        /** A line without a condition has no code and always holds. */
        private boolean holds(int start, int stop, int[] facts) {
            stack[0] = 1;
            int high = 0;
            for (int i = start; i < stop; i++) {
                int op = code[i];
                if (op >= 0 && high < STACK) {
                    stack[high] = op >= FACT && op < FACT + FACTS ? facts[op - FACT] : op;
                    high++;
                } else if (op == -LawReader.NOT && high > 0) {
                    stack[high - 1] = 1 - stack[high - 1];
                } else if (high > 1) {
                    high--;
                    stack[high - 1] = joined(-op, stack[high - 1], stack[high]);
                }
            }
            return stack[0] != 0;
        }

        private static int joined(int sign, int a, int b) {
            switch (sign) {
                case '+':
                    return a + b;
                case '-':
                    return a - b;
                case '*':
                    return a * b;
                case '/':
                    return b == 0 ? 0 : a / b;
                case '<':
                    return a < b ? 1 : 0;
                case '=':
                    return a == b ? 1 : 0;
                case '>':
                    return a > b ? 1 : 0;
                case LawReader.AND:
                    return a & b;
                default:
                    return a | b;
            }
        }
    }

    /**
     * Reads a text into a law. From the first fault on no token is another one's, so that every
     * part of the reading ends at once and the first fault stays.
     */
    private static final class LawReader {
        /** Each keyword in seven signs, its place being its token; the facts are the last eight. */
        static final String WORDS =
            "may    bar    when   or     and    not    from   to     length used   thread wound  turn   shade  ";
        static final int WIDTH = 7;
        static final int MAY = 0;
        static final int BAR = 1;
        static final int WHEN = 2;
        static final int OR = 3;
        static final int AND = 4;
        static final int NOT = 5;
        static final int FIRST_FACT = 6;
        static final int KEYWORDS = 14;
        /** Signs are tokens by their own numbers, which lie above all these. */
        static final int NUMBER = 20;
        static final int END = 21;
        static final int UNKNOWN = 22;
        static final String SIGNS = ";+-*/()<=>";
        static final int MOST_DIGITS = 4;
        static final int MOST_OPEN = 8;
        static final int MISPLACED = 1;
        static final int BY_ZERO = 2;
        static final int TOO_MANY = 3;

        final Law draft = new Law();
        final int[] tokens = new int[MOST_BYTES + 1];
        final int[] places = new int[MOST_BYTES + 1];
        final int[] values = new int[MOST_BYTES + 1];
        int count;
        int at;
        int token;
        int codes;
        int fault;
        int place;

        void read(int[] bytes, int length) {
            split(bytes, Math.min(length, MOST_BYTES));
            draft.lines = 0;
            codes = 0;
            fault = 0;
            place = NONE;
            at = 0;
            token = tokens[0];
            for (int i = 0; i <= MOST_BYTES && fault == 0 && token != END; i++) {
                readLine();
            }
        }

        private void split(int[] bytes, int length) {
            count = 0;
            int i = 0;
            while (i < length) {
                int stop = i + 1;
                int sign = bytes[i];
                if (isLetter(sign)) {
                    while (stop < length && isLetter(bytes[stop])) {
                        stop++;
                    }
                    put(keywordOf(bytes, i, stop), i, 0);
                } else if (isDigit(sign)) {
                    while (stop < length && isDigit(bytes[stop])) {
                        stop++;
                    }
                    put(stop - i <= MOST_DIGITS ? NUMBER : UNKNOWN, i, valueOf(bytes, i, stop));
                } else if (sign != ' ' && sign != '\n') {
                    put(SIGNS.indexOf((char) sign) >= 0 ? sign : UNKNOWN, i, 0);
                }
                i = stop;
            }
            put(END, length, 0);
        }

        private void put(int kind, int where, int value) {
            if (count <= MOST_BYTES) {
                tokens[count] = kind;
                places[count] = where;
                values[count] = value;
                count++;
            }
        }

        private static boolean isLetter(int sign) {
            return sign >= 'a' && sign <= 'z' || sign >= 'A' && sign <= 'Z';
        }

        private static boolean isDigit(int sign) {
            return sign >= '0' && sign <= '9';
        }

        private static int keywordOf(int[] bytes, int start, int stop) {
            for (int word = 0; word < KEYWORDS && stop - start < WIDTH; word++) {
                int i = start;
                while (i < stop && WORDS.charAt(word * WIDTH + i - start) == bytes[i]) {
                    i++;
                }
                if (i == stop && WORDS.charAt(word * WIDTH + stop - start) == ' ') {
                    return word;
                }
            }
            return UNKNOWN;
        }

        private static int valueOf(int[] bytes, int start, int stop) {
            int value = 0;
            for (int i = start; i < stop && i < start + MOST_DIGITS; i++) {
                value = value * 10 + bytes[i] - '0';
            }
            return value;
        }

        private void step() {
            if (fault == 0 && at < count - 1) {
                at++;
                token = tokens[at];
            }
        }

        private void refuse(int kind) {
            if (fault == 0) {
                fault = kind;
                place = places[at];
                token = UNKNOWN;
            }
        }

        private void demand(int wanted) {
            if (token == wanted) {
                step();
            } else {
                refuse(MISPLACED);
            }
        }

        private void emit(int op) {
            if (codes < MOST_BYTES) {
                draft.code[codes] = op;
                codes++;
            }
        }

        private void readLine() {
            if (token != MAY && token != BAR) {
                refuse(MISPLACED);
                return;
            }
            if (draft.lines >= Law.MOST_LINES) {
                refuse(TOO_MANY);
                return;
            }
            draft.verdicts[draft.lines] = token == MAY;
            step();
            if (token == WHEN) {
                step();
                readCondition(0);
            }
            demand(';');
            draft.ends[draft.lines] = codes;
            draft.lines++;
        }

        /**
         * B and A of the document: or waits until all that and joins behind it is whole; open: how
         * many brackets and nots are open round it.
         */
        private void readCondition(int open) {
            boolean waiting = false;
            readOne(open);
            for (int i = 0; i <= MOST_BYTES; i++) {
                if (token == AND) {
                    step();
                    readOne(open);
                    emit(-AND);
                } else if (token == OR) {
                    step();
                    if (waiting) {
                        emit(-OR);
                    }
                    waiting = true;
                    readOne(open);
                } else {
                    break;
                }
            }
            if (waiting) {
                emit(-OR);
            }
        }

        /** C of the document. */
        private void readOne(int open) {
            int first = token;
            if ((first == NOT || first == '(') && open >= MOST_OPEN) {
                refuse(TOO_MANY);
            } else if (first == NOT) {
                step();
                readOne(open + 1);
                emit(-NOT);
            } else if (first == '(') {
                step();
                readCondition(open + 1);
                demand(')');
            } else {
                readSum();
                int sign = token;
                demand(sign == '<' || sign == '>' ? sign : '=');
                readSum();
                emit(-sign);
            }
        }

        /** E and T of the document: + or - waits until the product behind it is whole. */
        private void readSum() {
            int waiting = 0;
            readOperand(0);
            for (int i = 0; i <= MOST_BYTES; i++) {
                int sign = token;
                if (sign == '*' || sign == '/') {
                    step();
                    readOperand(sign);
                    emit(-sign);
                } else if (sign == '+' || sign == '-') {
                    step();
                    if (waiting != 0) {
                        emit(-waiting);
                    }
                    waiting = sign;
                    readOperand(sign);
                } else {
                    break;
                }
            }
            if (waiting != 0) {
                emit(-waiting);
            }
        }

        /** U of the document; behind / a number alone may stand, and not 0. */
        private void readOperand(int sign) {
            boolean parts = sign == '/';
            if (parts && token == NUMBER && values[at] == 0) {
                refuse(BY_ZERO);
            } else if (token == NUMBER) {
                emit(values[at]);
                step();
            } else if (!parts && token >= FIRST_FACT && token < KEYWORDS) {
                emit(Law.FACT + token - FIRST_FACT);
                step();
            } else {
                refuse(MISPLACED);
            }
        }
    }
}
