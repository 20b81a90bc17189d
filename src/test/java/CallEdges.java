import java.util.ArrayList;
import java.util.List;
import java.util.function.Supplier;

/** Promises 1 to 31: for each number that a call takes the last that can be and the first that can't. */
final class CallEdges {
    private static final int NONE = Edge.NONE;

    private interface Call {
        int of(OneThread x, int[] a);
    }

    private CallEdges() {
    }

    static void all() {
        aNewObject();
        told();
        windings();
        tape();
        texts();
        asked();
        thought();
        set();
        back();
        rules();
        undoAndImage();
        look();
        calls();
    }

    private static int bit(boolean answer) {
        return answer ? 1 : 0;
    }

    private static String name(String call, int[] a) {
        List<String> parts = new ArrayList<>();
        for (int v : a) parts.add(String.valueOf(v));
        return call + "(" + String.join(", ", parts) + ")";
    }

    /**
     * Each number of a call by itself, the others as in base: low and high are answered, on a new
     * state each, and what lies outside is refused.
     */
    private static void ranges(String call, Supplier<OneThread> state, Call asked, int refusal, int[] base, int[]... ranges) {
        for (int i = 0; i < base.length; i++) {
            int low = ranges[i][0];
            int high = ranges[i][1];
            for (int v : new int[] {low, high}) {
                int[] a = base.clone();
                a[i] = v;
                Edge.due(name(call, a) + " is refused", bit(asked.of(state.get(), a) == refusal), 0);
            }
            OneThread x = state.get();
            for (int v : Edge.outside(low, high)) {
                int[] a = base.clone();
                a[i] = v;
                Edge.due(name(call, a), asked.of(x, a), refusal);
            }
        }
    }

    private static int[] to(int low, int high) {
        return new int[] {low, high};
    }

    private static int[] numbers(int... numbers) {
        return numbers;
    }

    /** 24 pins of four by four, threads with three pins each, a line, a fault. */
    private static OneThread some() {
        OneThread x = Edge.grid(4, 24);
        for (int t = 0; t < 3; t++) Edge.wind(x, t, 0, 1, 2);
        x.line(0, 1);
        Edge.law(x, "may when 1");
        return x;
    }

    private static void aNewObject() {
        Edge.says("The constants: `NONE = -1`: None.");
        Edge.due("NONE", OneThread.NONE, -1);
        Edge.says("A board of four by four, no pins.");
        OneThread x = new OneThread();
        Edge.due("S", x.look(0), 4);
        for (int what = 1; what < 6; what++) Edge.due("look " + what, x.look(what), 0);
        Edge.due("the last square", x.dark(3, 3), 0);
        Edge.due("no square", x.dark(4, 3), NONE);
        Edge.due("no pin 0", x.look(20), NONE);
        Edge.due("no pin to wind to", x.winding(0, 0), NONE);
        Edge.no("nothing to undo", x.undo());
        Edge.no("no image", x.image(false));
        Edge.no("no tape", x.end(1));
        Edge.due("no fault", x.fault(0), 0);
        Edge.due("no place", x.fault(1), NONE);
        Edge.due("the last point", x.pin(4, 4), 0);
        OneThread y = new OneThread();
        Edge.due("another object has none of it", y.look(1), 0);
    }

    private static void told() {
        Edge.says("S is told: true; false, and nothing is done, if it can't be.");
        ranges("board", CallEdges::some, (x, a) -> bit(x.board(a[0])), 0, numbers(3), to(2, 8));
        Edge.says("A PIN: its number; NONE if one can't be (a POINT that has one), or there are 24.");
        ranges("pin", OneThread::new, (x, a) -> x.pin(a[0], a[1]), NONE, numbers(2, 2), to(0, 4), to(0, 4));
        OneThread y = Edge.grid(4, 23);
        Edge.due("a point that has one", y.pin(0, 0), NONE);
        Edge.due("the 24th", y.pin(3, 4), 23);
        Edge.due("the 25th", y.pin(4, 4), NONE);
        Edge.says("WANT of a SQUARE in a PICTURE: true; false if one can't be.");
        ranges("want", CallEdges::some, (x, a) -> bit(x.want(a[0], a[1], a[2], a[3])), 0, numbers(1, 1, 1, 1),
            to(0, 3), to(0, 3), to(0, 3), to(0, 999));
        Edge.says("WEIGHT of a SQUARE: true; false if one can't be.");
        ranges("weight", CallEdges::some, (x, a) -> bit(x.weight(a[0], a[1], a[2])), 0, numbers(1, 1, 1),
            to(0, 3), to(0, 3), to(0, 9));
        Edge.says("SHADE of a THREAD: true; false if one can't be.");
        ranges("shade", CallEdges::some, (x, a) -> bit(x.shade(a[0], a[1])), 0, numbers(1, 1), to(0, 2), to(0, 9));
    }

    private static void windings() {
        Edge.says("A THREAD goes on to a PIN: how many PINS its WINDING has then; NONE, and nothing is done, if one can't be (where "
            + "it is; 120), -2 if THE LAW bars it.");
        ranges("winding", CallEdges::some, (x, a) -> x.winding(a[0], a[1]), NONE, numbers(1, 1), to(0, 2), to(0, 23));
        OneThread y = some();
        Edge.due("where it is", y.winding(0, 2), NONE);
        Edge.law(y, "bar;");
        Edge.due("where it is comes first", y.winding(0, 2), NONE);
        Edge.due("no pin comes first", y.winding(0, 24), NONE);
        Edge.due("no thread comes first", y.winding(3, 0), NONE);
        Edge.due("barred", y.winding(0, 0), -2);
        Edge.due("nothing is done", y.wound(0, NONE), 3);
        y.text();
        for (int i = 3; i < 120; i++) Edge.due("winding", y.winding(0, i % 2), i + 1);
        Edge.law(y, "bar;");
        Edge.due("120 comes first", y.winding(0, 0), NONE);
        Edge.due("the others go on", y.rub(1, 3) + y.winding(1, 0), 1);

        Edge.says("The last n PINS of a WINDING go (0 .. as many as there are): how many are left; NONE if one can't be.");
        ranges("rub", CallEdges::some, (x, a) -> x.rub(a[0], a[1]), NONE, numbers(1, 1), to(0, 2), to(0, 3));
        y = some();
        Edge.due("none", y.rub(2, 0), 3);
        Edge.due("one", y.rub(2, 1), 2);
        Edge.due("more than are left", y.rub(2, 3), NONE);
        Edge.due("all", y.rub(2, 2), 0);
        Edge.due("none of none", y.rub(2, 0), 0);
        Edge.due("one of none", y.rub(2, 1), NONE);
        Edge.due("the others are as they were", y.wound(0, NONE) + y.wound(1, NONE), 6);

        Edge.says("PIN i of a WINDING; for i NONE how many it has. NONE if there is none such.");
        y = some();
        for (int t = 0; t < 3; t++) {
            Edge.due("how many", y.wound(t, NONE), 3);
            Edge.due("the first", y.wound(t, 0), 0);
            Edge.due("the last", y.wound(t, 2), 2);
            for (int i : Edge.outside(0, 2)) Edge.due("wound " + t + " " + i, y.wound(t, i), i == NONE ? 3 : NONE);
        }
        for (int t : Edge.outside(0, 2)) {
            Edge.due("thread " + t, y.wound(t, 0), NONE);
            Edge.due("thread " + t, y.wound(t, NONE), NONE);
        }
        y.rub(0, 3);
        Edge.due("an empty one has none", y.wound(0, NONE), 0);
        Edge.due("nor a first", y.wound(0, 0), NONE);
    }

    private static int feedBlanks(OneThread x) {
        return x.feed(0x20202020, 0x20202020, 0x20202020, 0x20202020, 0x20202020);
    }

    private static void tape() {
        Edge.says("Twenty bytes come behind the TAPE, of each number the highest first: how many it has. NONE, and nothing comes, if "
            + "there would be more than 400.");
        OneThread x = new OneThread();
        for (int i = 1; i <= 20; i++) Edge.due("feed", feedBlanks(x), 20 * i);
        Edge.due("at 400", x.feed(0x78787878, 0, 0, 0, 0), NONE);
        Edge.yes("400 are there", x.end(400));
        for (int n : new int[] {399, 390, 381}) {
            x.end(n);
            Edge.due("at " + n, x.feed(0x78787878, 0, 0, 0, 0), NONE);
            Edge.no("no byte came", x.end(n + 1));
        }
        x.end(380);
        Edge.due("at 380", feedBlanks(x), 400);
        Edge.due("nothing of what was refused came", x.text(), 0);
        x.end(0);
        Edge.due("the highest first", x.feed(0x6d61793b, 0x6261723b, 0x6d61793b, 0x6261723b, 0x6d61792e), 20);
        Edge.due("the twentieth is a dot", x.text(), NONE);
        Edge.due("its place", x.fault(1), 19);
        Edge.due("all bits", x.feed(-1, -1, -1, -1, -1), 20);
        Edge.due("the sign of an int is a bit like others", x.feed(Integer.MIN_VALUE, Integer.MAX_VALUE, 0, 1, 1 << 24), 40);

        Edge.says("The TAPE has its first n bytes alone: true; false, changing nothing, if it has not so many, or n is below 0.");
        x = new OneThread();
        Edge.yes("0 of none", x.end(0));
        for (int n : Edge.outside(0, 0)) Edge.no("end " + n, x.end(n));
        x.feed(0x6d61793b, 0x6d61793b, 0x6d61793b, 0x6d61793b, 0x6d61793b);
        for (int n : Edge.outside(0, 20)) Edge.no("end " + n, x.end(n));
        Edge.yes("all of 20", x.end(20));
        Edge.yes("19", x.end(19));
        Edge.no("20 are no more", x.end(20));
        Edge.yes("16", x.end(16));
        Edge.due("the first 16", x.text(), 4);
        x.feed(0x6d61793b, 0x6d61793b, 0x6d61793b, 0x6d61793b, 0x6d61793b);
        Edge.yes("0", x.end(0));
        Edge.due("none", x.text(), 0);
        x.feed(0x6d61793b, 0x20202020, 0x20202020, 0x20202020, 0x2020202e);
        x.end(19);
        x.feed(0x6261723b, 0x20202020, 0x20202020, 0x20202020, 0x20202020);
        Edge.due("what comes then comes behind the 19th", x.text(), 2);
    }

    private static void texts() {
        Edge.says("The TAPE, empty then, is THE LAW: how many lines. NONE: a FAULT (it stays as it was).");
        OneThread x = some();
        Edge.due("a law of one line", Edge.law(x, "bar when to=0;"), 1);
        Edge.no("the tape is empty then", x.end(1));
        Edge.due("lines", x.look(3), 1);
        Edge.due("a fault", Edge.law(x, "may;may;may"), NONE);
        Edge.due("the law stays: lines", x.look(3), 1);
        Edge.due("the law stays: it bars", x.winding(0, 0), -2);
        Edge.due("the law stays: it bars no other", x.winding(0, 1), 4);
        Edge.no("the tape is empty then too", x.end(1));
        Edge.due("an empty tape", x.text(), 0);
        Edge.due("the empty law", x.look(3), 0);
        Edge.due("bars nothing", x.winding(0, 0), 5);
        Edge.due("sixteen lines", Edge.law(x, "may;".repeat(16)), 16);
        Edge.due("look", x.look(3), 16);
        Edge.due("seventeen", Edge.law(x, "bar;".repeat(17)), NONE);
        Edge.due("look", x.look(3), 16);
        Edge.due("400 bytes", Edge.law(x, "bar when 0=0 and 1=1;".repeat(15) + " ".repeat(81) + "may;"), 16);

        Edge.says("Of the latest text(): what 0 the FAULT (0 without one), 1 its place (NONE). NONE for another what.");
        x = new OneThread();
        Edge.due("no text yet", x.fault(0), 0);
        Edge.due("no text yet: place", x.fault(1), NONE);
        for (int what : Edge.outside(0, 1)) Edge.due("fault " + what, x.fault(what), NONE);
        Edge.law(x, ";");
        Edge.due("at the first place", x.fault(1), 0);
        Edge.due("fault", x.fault(0), 1);
        for (int what : Edge.outside(0, 1)) Edge.due("fault " + what, x.fault(what), NONE);
        Edge.law(x, "may when 1/0");
        Edge.due("the latest", x.fault(0), 2);
        Edge.due("the latest: place", x.fault(1), 11);
        Edge.put(x, "bar");
        Edge.due("the tape alone is no text", x.fault(0), 2);
        x.end(0);
        x.text();
        Edge.due("the latest has none", x.fault(0), 0);
        Edge.due("nor a place", x.fault(1), NONE);
    }

    private static void asked() {
        Edge.says("DARK of a SQUARE; NONE if there is none such.");
        ranges("dark", CallEdges::some, (x, a) -> x.dark(a[0], a[1]), NONE, numbers(1, 1), to(0, 3), to(0, 3));
        Edge.says("SAMPLES of the LINE of two PINS in a SQUARE; NONE if one can't be (alike).");
        ranges("samples", CallEdges::some, (x, a) -> x.samples(a[0], a[1], a[2], a[3]), NONE, numbers(5, 7, 1, 1),
            to(0, 23), to(0, 23), to(0, 3), to(0, 3));
        OneThread y = some();
        for (int i = 0; i < 24; i++) Edge.due("alike", y.samples(i, i, 0, 0), NONE);
        Edge.says("FAR of a PICTURE; NONE if there is none such.");
        ranges("far", CallEdges::some, (x, a) -> x.far(a[0]), NONE, numbers(1), to(0, 3));
    }

    private static void thought() {
        Edge.says("NEXT of a THREAD for a PICTURE what 0 the PIN (NONE), 1 GAIN (0 without one). NONE - 999999 if one can't be, or "
            + "another what.");
        ranges("next", CallEdges::some, (x, a) -> x.next(a[0], a[1], a[2]), -1000000, numbers(1, 1, 1), to(0, 2), to(0, 3), to(0, 1));
        OneThread y = new OneThread();
        Edge.due("no pins", y.next(0, 0, 0), NONE);
        Edge.due("no pins: gain", y.next(0, 0, 1), 0);
        Edge.says("GREEDY what 0 how often, 1 FAR then, 2 the PIN (NONE). NONE if one can't be, or another what.");
        ranges("greedy", CallEdges::some, (x, a) -> x.greedy(a[0], a[1], a[2], a[3]), NONE, numbers(1, 1, 2, 1),
            to(0, 2), to(0, 3), to(1, 40), to(0, 2));
        Edge.due("no pins", y.greedy(2, 3, 40, 0), 0);
        Edge.due("no pins: far", y.greedy(2, 3, 40, 1), 0);
        Edge.due("no pins: pin", y.greedy(2, 3, 40, 2), NONE);
        Edge.says("WORST for a PICTURE what 0 the THREAD, 1 the place of its LINE (from 0 on), 2 by how much less. NONE if there is "
            + "none, one can't be, or another what.");
        ranges("worst", CallEdges::some, (x, a) -> x.worst(a[0], a[1]), NONE, numbers(1, 1), to(0, 3), to(0, 2));
        for (int what = 0; what < 3; what++) Edge.due("none", y.worst(0, what), NONE);
        OneThread z = some();
        Edge.due("the first place", z.worst(0, 1), 0);
        Edge.due("the thread that is darkest", z.worst(0, 0), 2);
        Edge.due("by how much", z.worst(0, 2), 24);
        Edge.says("LIKE.");
        Edge.due("of a new object", y.like(), 0);
    }

    private static void set() {
        Edge.says("A LINE comes to THE SET: its number; NONE if one can't be (alike; one that is in it), or there are twenty.");
        ranges("line", CallEdges::some, (x, a) -> x.line(a[0], a[1]), NONE, numbers(5, 7), to(0, 23), to(0, 23));
        OneThread y = some();
        Edge.due("in it", y.line(0, 1), NONE);
        Edge.due("in it the other way", y.line(1, 0), NONE);
        for (int i = 0; i < 24; i++) Edge.due("alike", y.line(i, i), NONE);
        for (int i = 1; i < 20; i++) Edge.due("line", y.line(0, i + 1), i);
        Edge.due("there are twenty", y.line(0, 21), NONE);
        Edge.due("look", y.look(2), 20);
        Edge.says("THE SET is empty then: how many LINES it had.");
        Edge.due("twenty", y.clear(), 20);
        Edge.due("look", y.look(2), 0);
        Edge.due("none", y.clear(), 0);
        Edge.due("one that was in it", y.line(1, 0), 0);
        Edge.due("one", y.clear(), 1);
        Edge.says("Of THE SET what 0 THREADS, 1 MORE, 2 SHORTEST MORE (NONE), 3 PINS that are odd, 4 parts that hang together. NONE "
            + "for another what.");
        ranges("thread", CallEdges::some, (x, a) -> x.thread(a[0]), NONE, numbers(1), to(0, 4));
        int[] none = {0, 0, NONE, 0, 0};
        for (int what = 0; what < 5; what++) Edge.due("no lines: thread " + what, y.thread(what), none[what]);
        Edge.says("ORDER: its i-th PIN; NONE if one thread is not enough (or no LINES), or there is none such.");
        ranges("order", CallEdges::some, (x, a) -> x.order(a[0]), NONE, numbers(0), to(0, 1));
        Edge.due("no lines", y.order(0), NONE);
        y.line(0, 1);
        y.line(2, 3);
        Edge.due("one thread is not enough", y.order(0), NONE);
        y.line(1, 2);
        Edge.due("it is", y.order(0), 0);
        Edge.due("the last", y.order(3), 3);
        Edge.due("asked again", y.order(3), 3);
        Edge.due("behind it", y.order(4), NONE);
    }

    private static void back() {
        Edge.says("SHADE told for a SQUARE (NONE: none): true; false if one can't be.");
        ranges("tell", CallEdges::some, (x, a) -> bit(x.tell(a[0], a[1], a[2])), 0, numbers(1, 1, 1), to(0, 3), to(0, 3), to(-1, 9999));
        OneThread y = some();
        y.tell(3, 3, 1);
        Edge.due("told", y.back(0), 0);
        y.tell(3, 3, NONE);
        Edge.due("none told", y.back(0), 2);
        Edge.says("TOLD BACK what 0 how many sets, 1 the first (NONE), 2 which are in all of them (0 without any). NONE - 1 if THE "
            + "SET has more than 12, or another what.");
        ranges("back", CallEdges::some, (x, a) -> x.back(a[0]), -2, numbers(1), to(0, 2));
        y.tell(0, 0, 9999);
        int[] none = {0, NONE, 0};
        for (int what = 0; what < 3; what++) Edge.due("none: back " + what, y.back(what), none[what]);
        y.tell(0, 0, NONE);
        for (int i = 1; i < 12; i++) y.line(5, 6 + i);
        int[] twelve = {4096, 0, 0};
        for (int what = 0; what < 3; what++) Edge.due("twelve: back " + what, y.back(what), twelve[what]);
        y.line(5, 20);
        for (int what = 0; what < 4; what++) Edge.due("thirteen: back " + what, y.back(what), -2);
    }

    private static void rules() {
        Edge.says("A RULE k, s (0 .. 99 each) what 0 how many LINES, 1 t. NONE if one can't be (no PINS), or another what.");
        ranges("rule", CallEdges::some, (x, a) -> x.rule(a[0], a[1], a[2]), NONE, numbers(2, 2, 1), to(0, 99), to(0, 99), to(0, 1));
        OneThread y = new OneThread();
        Edge.due("no pins", y.rule(2, 0, 0), NONE);
        Edge.due("no pins: t", y.rule(2, 0, 1), NONE);
        Edge.says("DARK by a RULE in a SQUARE; NONE if one can't be.");
        ranges("drawn", CallEdges::some, (x, a) -> x.drawn(a[0], a[1], a[2], a[3]), NONE, numbers(2, 2, 1, 1),
            to(0, 99), to(0, 99), to(0, 3), to(0, 3));
        Edge.due("no pins", y.drawn(2, 0, 0, 0), NONE);
        y.pin(0, 0);
        Edge.due("one pin", y.drawn(2, 0, 0, 0), 0);
    }

    private static void undoAndImage() {
        Edge.says("UNDO: true; false if there is nothing.");
        OneThread x = some();
        for (int i = 8; i >= 0; i--) {
            Edge.due("what can be undone", x.look(4), i + 1);
            Edge.yes("undo", x.undo());
        }
        Edge.due("nothing can be undone", x.look(4), 0);
        Edge.no("nothing", x.undo());
        Edge.no("nothing yet", x.undo());
        for (int t = 0; t < 3; t++) Edge.due("all are empty", x.wound(t, NONE), 0);
        Edge.due("nor dark", x.dark(0, 0), 0);
        Edge.says("THE IMAGE is taken (true), or gone back to (false): true; false if there is none.");
        x = some();
        Edge.no("there is none", x.image(false));
        Edge.due("all is as it was", x.look(5), 6);
        Edge.due("what can be undone too", x.look(4), 9);
        Edge.yes("taken", x.image(true));
        Edge.yes("gone back to", x.image(false));
        Edge.yes("again", x.image(false));
        Edge.yes("taken again", x.image(true));
        Edge.due("all is as it was", x.look(5), 6);
    }

    private static void look() {
        Edge.says("What 0 S, 1 PINS, 2 LINES in THE SET, 3 lines of THE LAW, 4 what can be undone, 5 LENGTH of all WINDINGS together, "
            + "10 + t SHADE of THREAD t, 20 + i x and 10 times y of PIN i. NONE for another what.");
        OneThread x = some();
        Edge.law(x, "may;bar;");
        int[] first = {4, 24, 1, 2, 9, 6};
        for (int what = 0; what < 6; what++) Edge.due("look " + what, x.look(what), first[what]);
        for (int what = 6; what < 10; what++) Edge.due("look " + what, x.look(what), NONE);
        for (int what = 10; what < 13; what++) Edge.due("look " + what, x.look(what), what - 9);
        for (int what = 13; what < 20; what++) Edge.due("look " + what, x.look(what), NONE);
        for (int i = 0; i < 24; i++) Edge.due("look " + (20 + i), x.look(20 + i), i % 5 + 10 * (i / 5));
        for (int what : Edge.outside(0, 43)) Edge.due("look " + what, x.look(what), NONE);
        for (int i = 0; i < 24; i++) Edge.due("what wraps", x.look(Integer.MIN_VALUE + i), NONE);
        x = new OneThread();
        Edge.due("no pin", x.look(20), NONE);
        x.board(8);
        for (int i = 0; i < 24; i++) {
            x.pin(8 - i / 9, 8 - i % 9);
            Edge.due("the last", x.look(20 + i), 8 - i / 9 + 10 * (8 - i % 9));
            Edge.due("behind it", x.look(21 + i), NONE);
        }
        Edge.wind(x, 0, 0, 8, 9, 17);
        Edge.wind(x, 1, 0, 8, 9, 17);
        Edge.due("length of all", x.look(5), 2 * (8 + 8 + 8));
    }

    /** The 512th call is answered like the first. */
    private static void calls() {
        Edge.says("An object is used for at most 512 calls after it has been made; what later calls answer is free.");
        OneThread x = new OneThread();
        x.pin(0, 0);
        for (int i = 0; i < 509; i++) Edge.due("winding and undo by turns", i % 2 == 0 ? x.winding(0, 0) : bit(x.undo()), 1);
        Edge.due("the 511th", x.wound(0, NONE), 1);
        Edge.yes("the 512th", x.undo());
    }
}
