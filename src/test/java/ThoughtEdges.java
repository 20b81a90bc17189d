/** Terms, part 3: what is thought, THE SET, TOLD BACK, rules, UNDO and THE IMAGE. */
final class ThoughtEdges {
    private static final int NONE = Edge.NONE;

    private ThoughtEdges() {
    }

    static void all() {
        next();
        greedy();
        worst();
        setThreads();
        setMore();
        shortestMore();
        order();
        toldBack();
        like();
        rules();
        undo();
        undoForgotten();
        image();
    }

    /** (0, 0) and (5, 3) of five by five: three middles in (1, 1), which alone has a weight. */
    private static OneThread threeMiddles() {
        OneThread x = Edge.pins(5, 0, 35);
        for (int i = 0; i < 25; i++) x.weight(i % 5, i / 5, i == 6 ? 1 : 0);
        return x;
    }

    private static void next() {
        Edge.says("NEXT of a THREAD for a PICTURE: of all PINS to which it may go on (with an empty WINDING: none) that by which "
            + "FAR were least; of several the least; GAIN: by how much less than now (it may be below 0).");
        OneThread x = Edge.pins(2, 0, 1, 2, 10, 20);
        x.want(0, 0, 0, 999);
        Edge.due("an empty winding", x.next(0, 0, 0), NONE);
        Edge.due("its gain", x.next(0, 0, 1), 0);
        x.winding(0, 0);
        Edge.due("0 to 1 or 3 are the same: the least", x.next(0, 0, 0), 1);
        Edge.due("gain", x.next(0, 0, 1), 8);
        Edge.law(x, "bar when to=1;");
        Edge.due("barred: the next of them", x.next(0, 0, 0), 3);
        Edge.law(x, "may when to=2;bar;");
        Edge.due("one alone", x.next(0, 0, 0), 2);
        Edge.due("its gain", x.next(0, 0, 1), 0);
        Edge.law(x, "bar;");
        Edge.due("all barred", x.next(0, 0, 0), NONE);
        Edge.due("gain without one", x.next(0, 0, 1), 0);
        x.text();
        x.want(0, 0, 0, 0);
        x.winding(2, 4);
        Edge.due("below 0", x.next(2, 0, 1), -24);
        Edge.due("the least of those", x.next(2, 0, 0), 3);
        x.shade(2, 0);
        Edge.due("all alike: the least pin", x.next(2, 0, 0), 0);
        Edge.due("gain 0", x.next(2, 0, 1), 0);
        x = Edge.pins(2, 0);
        x.winding(1, 0);
        Edge.due("one pin alone", x.next(1, 0, 0), NONE);
        Edge.due("its gain", x.next(1, 0, 1), 0);
        x = Edge.grid(4, 24);
        x.winding(0, 0);
        Edge.law(x, "bar when to<23;");
        Edge.due("the last of 24", x.next(0, 0, 0), 23);
        Edge.due("gain", x.next(0, 0, 1), -32);
    }

    private static void greedy() {
        Edge.says("GREEDY: in thought it goes on to NEXT as long as GAIN is above 0, n (1 .. 40) times at most: how often, FAR "
            + "then, the PIN where it is then.");
        OneThread x = threeMiddles();
        x.winding(0, 0);
        int[][] due = {{0, 0, 0, 0}, {1, 0, 1, 0}, {2, 1, 1, 1}, {3, 1, 0, 1}, {4, 1, 1, 1}, {5, 2, 1, 0}, {6, 2, 0, 0}};
        for (int[] d : due) {
            x.want(0, 1, 1, d[0]);
            Edge.due("how often for " + d[0], x.greedy(0, 0, 40, 0), d[1]);
            Edge.due("far for " + d[0], x.greedy(0, 0, 40, 1), d[2]);
            Edge.due("pin for " + d[0], x.greedy(0, 0, 40, 2), d[3]);
        }
        x.shade(0, 2);
        x.want(0, 1, 1, 3);
        Edge.due("gain 0", x.next(0, 0, 1), 0);
        Edge.due("gain 0 is not above 0", x.greedy(0, 0, 1, 0), 0);
        x.want(0, 1, 1, 4);
        Edge.due("gain 2", x.greedy(0, 0, 1, 0), 1);
        x.want(0, 1, 1, 999);
        for (int n : new int[] {1, 2, 39, 40}) {
            Edge.due("how often of " + n, x.greedy(0, 0, n, 0), n);
            Edge.due("far of " + n, x.greedy(0, 0, n, 1), 999 - 6 * n);
            Edge.due("pin of " + n, x.greedy(0, 0, n, 2), n % 2);
        }
        for (int n : Edge.outside(1, 40)) Edge.due("n " + n, x.greedy(0, 0, n, 0), NONE);
        Edge.due("in thought alone", x.wound(0, NONE), 1);
        Edge.due("far as it was", x.far(0), 999);
        Edge.due("an empty winding: how often", x.greedy(1, 0, 40, 0), 0);
        Edge.due("an empty winding: far", x.greedy(1, 0, 40, 1), 999);
        Edge.due("an empty winding: pin", x.greedy(1, 0, 40, 2), NONE);
        Edge.law(x, "bar;");
        Edge.due("all barred: how often", x.greedy(0, 0, 40, 0), 0);
        Edge.due("all barred: pin", x.greedy(0, 0, 40, 2), 0);
        greedyWhenFull();
    }

    /** A winding has 120 pins at most, in thought too. */
    private static void greedyWhenFull() {
        OneThread x = Edge.pins(2, 0, 1, 2);
        x.shade(0, 0);
        for (int i = 0; i < 119; i++) x.winding(0, i % 2);
        x.shade(0, 1);
        x.want(0, 0, 0, 999);
        Edge.due("119 pins: one more", x.greedy(0, 0, 40, 0), 1);
        Edge.due("119 pins: next", x.next(0, 0, 0), 1);
        Edge.due("the 120th", x.winding(0, 1), 120);
        Edge.due("120 pins: none more", x.greedy(0, 0, 40, 0), 0);
        Edge.due("120 pins: where it is", x.greedy(0, 0, 40, 2), 1);
        Edge.due("120 pins: no next", x.next(0, 0, 0), NONE);
        Edge.due("120 pins: no gain", x.next(0, 0, 1), 0);
        x.rub(0, 39);
        Edge.due("81 pins: 39 more", x.greedy(0, 0, 39, 0), 39);
    }

    private static void worst() {
        Edge.says("WORST: of all THREADS, the LINE (by THREAD, then place in the WINDING) without which (it alone) FAR were "
            + "least, if that is less than FAR; of several the first; by how much.");
        OneThread x = threeMiddles();
        Edge.due("no windings", x.worst(0, 0), NONE);
        x.winding(1, 0);
        Edge.due("one pin", x.worst(0, 2), NONE);
        x.winding(1, 1);
        x.shade(1, 1);
        int[][] due = {{0, 3}, {1, 1}, {2, NONE}, {3, NONE}, {4, NONE}};
        for (int[] d : due) {
            x.want(0, 1, 1, d[0]);
            Edge.due("by how much for " + d[0], x.worst(0, 2), d[1]);
            Edge.due("thread for " + d[0], x.worst(0, 0), d[1] == NONE ? NONE : 1);
            Edge.due("place for " + d[0], x.worst(0, 1), d[1] == NONE ? NONE : 0);
        }
        x.shade(1, 2);
        x.want(0, 1, 1, 3);
        Edge.due("as far without it: not less", x.worst(0, 2), NONE);
        x.shade(1, 0);
        Edge.due("a line that is not dark", x.worst(0, 2), NONE);
        x.shade(1, 1);
        x.want(0, 1, 1, 0);
        Edge.wind(x, 1, 0, 1);
        Edge.due("of several the first place", x.worst(0, 1), 0);
        Edge.due("it alone", x.worst(0, 2), 3);
        Edge.wind(x, 0, 1, 0);
        Edge.due("of several the first thread", x.worst(0, 0), 0);
        Edge.wind(x, 2, 1, 0);
        Edge.due("the last thread, if it is worse", x.worst(0, 0), 2);
        Edge.due("by how much", x.worst(0, 2), 9);
        lastPlace();
    }

    private static void lastPlace() {
        OneThread x = Edge.pins(2, 0, 1, 22);
        for (int i = 0; i < 119; i++) x.winding(2, i % 2);
        x.winding(2, 2);
        x.weight(0, 0, 0);
        Edge.due("thread", x.worst(3, 0), 2);
        Edge.due("the last place of 120 pins", x.worst(3, 1), 118);
        Edge.due("by how much", x.worst(3, 2), 24);
    }

    private static void star(OneThread x, int centre, int first, int many) {
        for (int i = 0; i < many; i++) x.line(centre, first + i);
    }

    private static void ring(OneThread x, int first, int many) {
        for (int i = 0; i < many; i++) x.line(first + i, first + (i + 1) % many);
    }

    private static void net(String what, OneThread x, int... due) {
        for (int w = 0; w < 5; w++) Edge.due(what + ", thread " + w, x.thread(w), due[w]);
        x.clear();
    }

    private static void setThreads() {
        Edge.says("A SET of LINES (20 at most) as they come, unlike ones: THREADS that it needs: of all its parts that hang "
            + "together half of the PINS with an odd number of LINES, 1 at least, added (0 without LINES).");
        OneThread x = Edge.grid(4, 24);
        for (int i = 0; i < 20; i++) Edge.due("as they come", x.line(i + 1, i), i);
        Edge.due("the 21st", x.line(21, 20), NONE);
        Edge.due("one that is in it", x.line(0, 1), NONE);
        Edge.due("how many", x.look(2), 20);
        net("a row of 20", x, 1, 0, 0, 2, 1);
        Edge.due("unlike", x.line(3, 4), 0);
        Edge.due("alike", x.line(3, 4), NONE);
        Edge.due("alike the other way", x.line(4, 3), NONE);
        Edge.due("unlike by a pin", x.line(3, 5), 1);
        x.clear();
        net("no lines", x, 0, 0, NONE, 0, 0);
        x.line(0, 23);
        net("one line", x, 1, 0, 0, 2, 1);
        ring(x, 0, 3);
        net("the least ring: none odd, 1 at least", x, 1, 0, 0, 0, 1);
        ring(x, 4, 20);
        net("a ring of 20", x, 1, 0, 0, 0, 1);
        ring(x, 0, 3);
        ring(x, 3, 3);
        net("two rings: 1 for each", x, 2, 1, NONE, 0, 2);
        for (int i = 0; i < 12; i++) x.line(2 * i, 2 * i + 1);
        net("12 lines, all 24 pins odd", x, 12, 11, NONE, 24, 12);
        star(x, 23, 0, 20);
        net("a star of 20", x, 10, 9, NONE, 20, 1);
        star(x, 0, 1, 19);
        net("a star of 19", x, 10, 9, NONE, 20, 1);
        star(x, 0, 1, 2);
        net("a star of 2", x, 1, 0, 0, 2, 1);
        star(x, 0, 1, 3);
        ring(x, 10, 4);
        net("a star of 3 and a ring", x, 3, 2, NONE, 4, 2);
    }

    private static void setMore() {
        Edge.says("MORE: the fewest LINES more by which it were one: that less 1 (0 without LINES).");
        OneThread x = Edge.grid(4, 24);
        Edge.due("no lines", x.thread(1), 0);
        x.line(0, 1);
        Edge.due("one thread", x.thread(1), 0);
        x.line(2, 3);
        Edge.due("two threads", x.thread(1), 1);
        x.line(1, 2);
        Edge.due("one more, and it is one", x.thread(1), 0);
        x.clear();
        star(x, 0, 1, 20);
        Edge.due("ten threads", x.thread(1), 9);
    }

    private static void shortestMore() {
        Edge.says("SHORTEST MORE, if all hangs together and 12 PINS at most are odd: of all ways to join odd PINS two by two but "
            + "two (none left out, if there are none) the least LENGTH together.");
        OneThread x = Edge.grid(8, 18);
        Edge.due("no lines", x.thread(2), NONE);
        x.line(0, 8);
        Edge.due("two odd: both are left out", x.thread(2), 0);
        x.line(8, 17);
        Edge.due("two odd yet", x.thread(2), 0);
        x.line(17, 0);
        Edge.due("none odd: none is left out", x.thread(2), 0);
        x.line(0, 3);
        x.line(0, 5);
        Edge.due("3 and 5 are odd", x.thread(2), 0);
        x.line(8, 7);
        Edge.due("3, 5, 7 and 8: 7 to 8", x.thread(2), 1);
        x.line(7, 3);
        Edge.due("5 and 8", x.thread(2), 0);
        x.clear();
        for (int i = 1; i < 4; i++) x.line(0, 2 * i);
        Edge.due("0, 2, 4, 6 in a row: the nearest two", x.thread(2), 2);
        x.line(8, 0);
        Edge.due("2, 4, 6, 8", x.thread(2), 2);
        x.line(12, 0);
        Edge.due("0, 2, 4, 6, 8 and one below 3: 1 and 2", x.thread(2), 3);
        x.clear();
        star(x, 0, 1, 11);
        Edge.due("12 odd with the middle", x.thread(3), 12);
        Edge.due("five of 1", x.thread(2), 5);
        x.line(0, 12);
        Edge.due("12 odd without it", x.thread(3), 12);
        Edge.due("five of 1 yet", x.thread(2), 5);
        x.line(0, 13);
        Edge.due("14 odd", x.thread(3), 14);
        Edge.due("more than 12", x.thread(2), NONE);
        x.line(12, 13);
        Edge.due("12 odd again", x.thread(2), 5);
        x.line(15, 16);
        Edge.due("not all hangs together", x.thread(2), NONE);
        farApart();
    }

    /** Four odd pins at the corners of eight by eight, each 8 from each other: one line of 8. */
    private static void farApart() {
        OneThread x = Edge.pins(8, 0, 8, 80, 88, 44);
        star(x, 4, 0, 4);
        Edge.due("corners", x.thread(2), 8);
        x.line(0, 1);
        Edge.due("two corners", x.thread(2), 0);
        x = Edge.pins(8, 0, 8, 80, 88, 44);
        star(x, 4, 0, 3);
        Edge.due("three corners and the middle: 4 to it", x.thread(2), 4);
    }

    private static void row(String what, OneThread x, int... pins) {
        for (int i = 0; i < pins.length; i++) Edge.due(what + ", order " + i, x.order(i), pins[i]);
        Edge.due(what + ", behind the last", x.order(pins.length), NONE);
        Edge.due(what + ", ahead of the first", x.order(-1), NONE);
        x.clear();
    }

    private static void order() {
        Edge.says("ORDER, if one thread is enough: the row of PINS that goes through all, each LINE once: the first (PIN by PIN, "
            + "the lesser).");
        OneThread x = Edge.grid(4, 24);
        Edge.due("no lines", x.order(0), NONE);
        x.line(23, 7);
        row("one line", x, 7, 23);
        for (int i = 0; i < 20; i++) x.line(23 - i, 22 - i);
        row("a row of 20", x, 3, 4, 5, 6, 7, 8, 9, 10, 11, 12, 13, 14, 15, 16, 17, 18, 19, 20, 21, 22, 23);
        ring(x, 4, 20);
        row("a ring of 20", x, 4, 5, 6, 7, 8, 9, 10, 11, 12, 13, 14, 15, 16, 17, 18, 19, 20, 21, 22, 23, 4);
        x.line(0, 1);
        ring(x, 2, 2);
        Edge.due("two parts", x.order(0), NONE);
        x.clear();
        star(x, 0, 1, 3);
        Edge.due("four odd", x.order(0), NONE);
        x.clear();
        // 0 to 1 first would leave the ring behind
        x.line(0, 1);
        x.line(0, 2);
        x.line(2, 3);
        x.line(3, 0);
        row("the lesser pin is a dead end", x, 0, 2, 3, 0, 1);
        x.line(5, 9);
        x.line(9, 6);
        row("the lesser end, though another pin is less", x, 5, 9, 6);
        ring(x, 1, 3);
        x.line(9, 1);
        row("from the lesser end", x, 1, 2, 3, 1, 9);
        ring(x, 0, 3);
        x.line(2, 3);
        x.line(3, 4);
        x.line(4, 2);
        row("two rings: the lesser where it can be", x, 0, 1, 2, 3, 4, 2, 0);
    }

    private static void back(String what, OneThread x, int many, int first, int inAll) {
        Edge.due(what + ": how many", x.back(0), many);
        Edge.due(what + ": the first", x.back(1), first);
        Edge.due(what + ": in all", x.back(2), inAll);
    }

    private static void toldBack() {
        Edge.says("TOLD BACK: SHADES told for SQUARES (a number 0 .. 9999 or none; none at first): how many sets of LINES of THE "
            + "SET (12 at most; each in it or not) have, with a SHADE of 1, as DARK just what is told for all SQUARES with one; the "
            + "first by rising numbers (the i-th LINE counts 2 to the i); which are in all of them.");
        OneThread x = Edge.grid(4, 24);
        back("no lines, none told", x, 1, 0, 0);
        Edge.yes("0", x.tell(0, 0, 0));
        back("no lines, 0 told", x, 1, 0, 0);
        Edge.yes("1", x.tell(0, 0, 1));
        back("no lines, 1 told", x, 0, NONE, 0);
        Edge.yes("none again", x.tell(0, 0, NONE));
        back("no lines, none told again", x, 1, 0, 0);
        // each line from (0, 0) has eight middles in the first square
        star(x, 0, 1, 12);
        back("12 lines, none told", x, 4096, 0, 0);
        int[][] due = {{0, 1, 0, 0}, {8, 12, 1, 0}, {16, 66, 3, 0}, {88, 12, 2047, 0}, {95, 0, NONE, 0}, {96, 1, 4095, 4095}, {97, 0, NONE, 0}, {104, 0, NONE, 0}, {9999, 0, NONE, 0}};
        for (int[] d : due) {
            Edge.yes("tell " + d[0], x.tell(0, 0, d[0]));
            back("12 lines, told " + d[0], x, d[1], d[2], d[3]);
        }
        for (int v : Edge.outside(-1, 9999)) Edge.no("tell " + v, x.tell(0, 0, v));
        back("9999 yet", x, 0, NONE, 0);
        x.tell(0, 0, 96);
        for (int t = 0; t < 3; t++) x.shade(t, 0);
        back("with a shade of 1", x, 1, 4095, 4095);
        x.tell(0, 0, 88);
        x.tell(3, 0, 0);
        // 0 to 4 alone and 0 to 9 go through (3, 0)
        back("another square told", x, 0, NONE, 0);
        x.tell(0, 0, 80);
        back("two left out", x, 1, 4095 - 8 - 256, 4095 - 8 - 256);
        x.tell(3, 0, 8);
        x.tell(0, 0, 88);
        back("one of two left out", x, 2, 4095 - 256, 4095 - 8 - 256);
        Edge.due("a 13th line", x.line(0, 13), 12);
        for (int what = 0; what < 3; what++) Edge.due("13 lines, back " + what, x.back(what), -2);
    }

    private static void like() {
        Edge.says("LIKE: of the PICTURES that with the least FAR, of several the least.");
        OneThread x = Edge.pins(2);
        Edge.due("all alike", x.like(), 0);
        for (int p = 0; p < 3; p++) {
            x.want(p, 0, 0, 1);
            Edge.due("all the others alike", x.like(), p + 1);
        }
        x.want(3, 1, 1, 1);
        Edge.due("all alike again", x.like(), 0);
        x.want(0, 0, 0, 2);
        Edge.due("1, 2 and 3 alike", x.like(), 1);
        x.want(1, 0, 0, 999);
        x.want(2, 0, 0, 2);
        Edge.due("3 by 1", x.like(), 3);
        x.weight(1, 1, 2);
        Edge.due("0, 2 and 3 alike by a weight", x.like(), 0);
        x.weight(1, 1, 0);
        x.weight(0, 0, 0);
        Edge.due("all 0", x.like(), 0);
    }

    private static void rule(OneThread x, int k, int s, int lines, int turn) {
        Edge.due("rule " + k + " " + s + " lines", x.rule(k, s, 0), lines);
        Edge.due("rule " + k + " " + s + " turn", x.rule(k, s, 1), turn);
    }

    private static void rules() {
        Edge.says("A RULE k, s: for all PINS i (of n) the LINE from i to (k i + s) modulo n, if it is another PIN (each LINE once): "
            + "how many LINES; DARK that they would make in a SQUARE with a SHADE of 1; by which least t (1 .. n) the LINES are the "
            + "same, if each PIN is turned to the t-th one behind it (round).");
        OneThread x = Edge.pins(2);
        rule(x, 0, 0, NONE, NONE);
        Edge.due("no pins: dark", x.drawn(0, 0, 0, 0), NONE);
        x.pin(0, 0);
        rule(x, 0, 0, 0, 1);
        rule(x, 99, 99, 0, 1);
        Edge.due("one pin: dark", x.drawn(99, 99, 0, 0), 0);
        x.pin(1, 0);
        rule(x, 0, 0, 1, 1);
        rule(x, 1, 1, 1, 1);
        rule(x, 1, 0, 0, 1);
        rule(x, 99, 99, 1, 1);
        Edge.due("each once: dark", x.drawn(1, 1, 0, 0), 8);
        for (int t = 0; t < 3; t++) x.shade(t, 9);
        Edge.due("with a shade of 1", x.drawn(1, 1, 0, 0), 8);
        x.pin(2, 0);
        // 0 to 1 and 0 to 2, turned by one: 1 to 2, which is not there
        rule(x, 0, 0, 2, 3);
        rule(x, 1, 1, 3, 1);
        rule(x, 2, 0, 1, 3);
        x = Edge.grid(4, 24);
        rule(x, 1, 1, 24, 1);
        rule(x, 1, 12, 12, 1);
        rule(x, 1, 24, 0, 1);
        rule(x, 1, 25, 24, 1);
        rule(x, 0, 0, 23, 24);
        rule(x, 0, 99, 23, 24);
        // 8 goes to 16 and 16 to 8
        rule(x, 2, 0, 22, 24);
        rule(x, 13, 0, 6, 2);
        rule(x, 99, 99, 24, 12);
        rule(x, 25, 0, 0, 1);
        rule(x, 23, 0, 11, 12);
        Edge.due("all to 0: eight middles of each in the first square", x.drawn(0, 0, 0, 0), 23 * 8);
        Edge.due("96 is 0 of 24", x.drawn(0, 96, 0, 0), 23 * 8);
    }

    private static void undo() {
        Edge.says("UNDO: the latest winding() not undone yet goes back (one PIN): 40 are kept;");
        OneThread x = Edge.pins(2, 0, 1, 2);
        Edge.no("nothing at first", x.undo());
        for (int i = 0; i < 40; i++) {
            x.winding(i % 3, i / 3 % 3);
            Edge.due("kept", x.look(4), i + 1);
        }
        Edge.due("the 41st", x.winding(1, 1), 14);
        Edge.due("40 are kept", x.look(4), 40);
        Edge.yes("the latest", x.undo());
        Edge.due("one pin of its thread", x.wound(1, NONE), 13);
        Edge.due("39 then", x.look(4), 39);
        Edge.yes("that ahead of it", x.undo());
        Edge.due("one pin of its thread", x.wound(0, NONE), 13);
        for (int i = 38; i > 0; i--) Edge.yes("undo", x.undo());
        Edge.no("no more: the first was not kept", x.undo());
        Edge.due("thread 0", x.wound(0, NONE), 1);
        Edge.due("thread 1", x.wound(1, NONE), 0);
        Edge.due("thread 2", x.wound(2, NONE), 0);
        x.winding(0, 1);
        x.winding(0, 2);
        x.undo();
        x.winding(0, 0);
        x.undo();
        Edge.due("what is undone is no more the latest", x.look(4), 1);
        Edge.yes("that ahead of both", x.undo());
        Edge.due("left", x.wound(0, NONE), 1);
        Edge.no("nothing more", x.undo());
        Edge.due("refused: not to be undone", x.winding(0, 0), NONE);
        Edge.no("nothing yet", x.undo());
        Edge.law(x, "bar;");
        Edge.due("barred: not to be undone", x.winding(0, 1), -2);
        Edge.no("nothing yet", x.undo());
        x.text();
        for (int i = 1; i < 120; i++) x.winding(0, i % 2);
        Edge.due("the 121st", x.winding(0, 0), NONE);
        Edge.due("40 kept", x.look(4), 40);
        for (int i = 0; i < 40; i++) x.undo();
        Edge.due("80 are left", x.wound(0, NONE), 80);
    }

    private interface Telling {
        void on(OneThread x);
    }

    private static void forgets(String what, Telling telling, boolean all) {
        OneThread x = Edge.pins(2, 0, 1, 2);
        x.image(true);
        Edge.wind(x, 0, 0, 1);
        x.winding(1, 2);
        telling.on(x);
        Edge.due(what + ": what can be undone", x.look(4), all ? 0 : 3);
        Edge.due(what + ": undo", x.undo() ? 1 : 0, all ? 0 : 1);
    }

    private static void undoForgotten() {
        Edge.says("whatever else is told but texts, PICTURES, WEIGHTS, SHADES told, THE SET forgets them.");
        forgets("board", x -> x.board(2), true);
        forgets("pin", x -> x.pin(2, 2), true);
        forgets("shade", x -> x.shade(2, 5), true);
        forgets("rub", x -> x.rub(0, 1), true);
        forgets("image gone back to", x -> x.image(false), true);
        forgets("text", x -> Edge.law(x, "bar;"), false);
        forgets("text with a fault", x -> Edge.law(x, "bar"), false);
        forgets("feed", x -> x.feed(1, 2, 3, 4, 5), false);
        forgets("end", x -> x.end(0), false);
        forgets("want", x -> x.want(0, 0, 0, 1), false);
        forgets("weight", x -> x.weight(0, 0, 2), false);
        forgets("tell", x -> x.tell(0, 0, 2), false);
        forgets("line", x -> x.line(0, 1), false);
        forgets("clear", x -> x.clear(), false);
        forgets("image taken", x -> x.image(true), false);
        forgets("greedy", x -> x.greedy(0, 0, 40, 0), false);
        forgets("board refused", x -> x.board(9), false);
        forgets("pin refused", x -> x.pin(0, 0), false);
        forgets("shade refused", x -> x.shade(0, 10), false);
        forgets("rub refused", x -> x.rub(0, 3), false);
        forgets("winding refused", x -> x.winding(0, 1), false);
    }

    private static void image() {
        Edge.says("THE IMAGE: all that is and was told but the TAPE, fault() and what can be undone (nothing then), as it was when "
            + "it was taken; gone back to it may be more than once.");
        OneThread x = Edge.pins(2, 0, 1, 2);
        Edge.no("none at first", x.image(false));
        Edge.law(x, "bar when to=2;");
        x.shade(1, 7);
        x.want(3, 1, 1, 999);
        x.weight(1, 1, 9);
        x.line(0, 1);
        x.tell(0, 0, 8);
        Edge.wind(x, 1, 0, 1);
        Edge.put(x, "may;");
        Edge.yes("taken", x.image(true));
        for (int round = 0; round < 3; round++) {
            Edge.put(x, "bar when to/0=1;");
            Edge.due("a fault", x.text(), NONE);
            Edge.put(x, "may;bar;");
            if (round > 0) another(x);
            else Edge.wind(x, 1, 0, 1);
            Edge.yes("gone back", x.image(false));
            Edge.due("S", x.look(0), 2);
            Edge.due("pins", x.look(1), 3);
            Edge.due("lines of the set", x.look(2), 1);
            Edge.due("lines of the law", x.look(3), 1);
            Edge.due("nothing can be undone", x.look(4), 0);
            Edge.no("undo", x.undo());
            Edge.due("length", x.look(5), 1);
            for (int i = 0; i < 3; i++) Edge.due("pin " + i, x.look(20 + i), i);
            for (int t = 0; t < 3; t++) Edge.due("wound " + t, x.wound(t, NONE), t == 1 ? 2 : 0);
            for (int i = 0; i < 2; i++) Edge.due("wound 1 " + i, x.wound(1, i), i);
            for (int i = 0; i < 2; i++) Edge.due("order " + i, x.order(i), i);
            Edge.due("samples", x.samples(0, 1, 0, 0), 8);
            Edge.due("samples beside", x.samples(0, 1, 1, 0), 0);
            Edge.due("shade", x.look(11), 7);
            Edge.due("dark", x.dark(0, 0), 56);
            Edge.due("far", x.far(3), 56 + 9 * 999);
            Edge.due("told back", x.back(1), 1);
            Edge.due("the law bars", x.winding(1, 2), -2);
            Edge.due("fault stays", x.fault(0), 2);
            Edge.due("its place stays", x.fault(1), 12);
            Edge.due("the tape stays", x.feed(0, 0, 0, 0, 0), 28);
        }
        imageAnew();
    }

    /** Another board with as many pins, lines and pins wound, each unlike those of the image. */
    private static void another(OneThread x) {
        x.board(8);
        x.pin(8, 8);
        x.pin(0, 8);
        x.pin(8, 0);
        for (int t = 0; t < 3; t++) Edge.wind(x, t, 2, 0);
        Edge.wind(x, 1, 1, 2, 1, 0, 1);
        x.line(1, 2);
        x.shade(1, 1);
        x.want(3, 1, 1, 1);
        x.weight(1, 1, 1);
        x.tell(0, 0, 0);
        x.samples(0, 1, 0, 0);
        Edge.law(x, "may when to=1;");
        Edge.law(x, "bar when to/0=1;");
        Edge.put(x, "may;bar;");
    }

    private static void imageAnew() {
        OneThread x = new OneThread();
        Edge.yes("taken of a new object", x.image(true));
        x.board(8);
        x.pin(8, 8);
        Edge.yes("gone back", x.image(false));
        Edge.due("S", x.look(0), 4);
        Edge.due("pins", x.look(1), 0);
        x.pin(1, 1);
        Edge.yes("taken anew", x.image(true));
        x.pin(2, 2);
        Edge.yes("gone back to the latest", x.image(false));
        Edge.due("pins", x.look(1), 1);
        x.winding(0, 0);
        Edge.yes("taken as it is", x.image(true));
        Edge.due("what can be undone is no part of it", x.look(4), 1);
        Edge.yes("undone", x.undo());
        Edge.yes("gone back", x.image(false));
        Edge.due("wound", x.wound(0, NONE), 1);
        Edge.no("nothing can be undone", x.undo());
    }
}
