/** Terms, part 1: the board, its squares, points and pins; lines; threads; pictures. */
final class BoardEdges {
    private static final int NONE = Edge.NONE;

    private BoardEdges() {
    }

    static void all() {
        quotients();
        squares();
        side();
        toldAnew();
        points();
        pins();
        length();
        parts();
        middles();
        lastSquare();
        samples();
        threads();
        windingMost();
        darkMost();
        wants();
        weights();
        far();
    }

    private static void quotients() {
        Edge.says("Quotients go downwards (to the lesser one).");
        OneThread x = Edge.pins(2, 0, 12, 10, 2);
        Edge.due("(0, 0) to (2, 1): y ends at 31 of 32", x.samples(0, 1, 1, 0), 8);
        Edge.due("and is never 1", x.samples(0, 1, 1, 1), 0);
        Edge.due("x ends at 31 of 16", x.samples(0, 1, 0, 0), 8);
        Edge.due("(0, 1) to (2, 0): y begins at 31 of 32", x.samples(2, 3, 0, 0), 8);
        Edge.due("and is never 1", x.samples(2, 3, 0, 1), 0);
    }

    private static void squares() {
        Edge.says("SQUARES x 0 .. S - 1, y 0 .. S - 1");
        for (int s = 2; s <= 8; s++) {
            OneThread x = Edge.pins(s, 0, s);
            for (int v : new int[] {0, s - 1}) {
                Edge.yes("want x " + v, x.want(0, v, 0, 1));
                Edge.yes("want y " + v, x.want(0, 0, v, 1));
                Edge.yes("weight x " + v, x.weight(v, 0, 1));
                Edge.yes("weight y " + v, x.weight(0, v, 1));
                Edge.yes("tell x " + v, x.tell(v, 0, 1));
                Edge.yes("tell y " + v, x.tell(0, v, 1));
                Edge.due("dark x " + v, x.dark(v, 0), 0);
                Edge.due("dark y " + v, x.dark(0, v), 0);
                Edge.due("samples x " + v, x.samples(0, 1, v, 0), 8);
                Edge.due("samples y " + v, x.samples(0, 1, 0, v), v == 0 ? 8 : 0);
                Edge.due("drawn x " + v, x.drawn(1, 1, v, 0), 8);
                Edge.due("drawn y " + v, x.drawn(1, 1, 0, v), v == 0 ? 8 : 0);
            }
            for (int v : Edge.outside(0, s - 1)) {
                Edge.no("want x " + v, x.want(0, v, 0, 1));
                Edge.no("want y " + v, x.want(0, 0, v, 1));
                Edge.no("weight x " + v, x.weight(v, 0, 1));
                Edge.no("weight y " + v, x.weight(0, v, 1));
                Edge.no("tell x " + v, x.tell(v, 0, 1));
                Edge.no("tell y " + v, x.tell(0, v, 1));
                Edge.due("dark x " + v, x.dark(v, 0), NONE);
                Edge.due("dark y " + v, x.dark(0, v), NONE);
                Edge.due("samples x " + v, x.samples(0, 1, v, 0), NONE);
                Edge.due("samples y " + v, x.samples(0, 1, 0, v), NONE);
                Edge.due("drawn x " + v, x.drawn(1, 1, v, 0), NONE);
                Edge.due("drawn y " + v, x.drawn(1, 1, 0, v), NONE);
            }
        }
        noSquareByAnother();
    }

    /** x too large by as much as a row and y too small by one (or the other way) is no square either. */
    private static void noSquareByAnother() {
        for (int s = 2; s <= 8; s++) {
            OneThread x = Edge.pins(s, 0, s);
            for (int row : new int[] {s, 8, s + 1}) {
                Edge.no("want " + row + " -1", x.want(0, row, -1, 1));
                Edge.no("want -1 " + row, x.want(0, -1, row, 1));
                Edge.no("want -" + row + " 1", x.want(0, -row, 1, 1));
                Edge.no("want 1 -" + row, x.want(0, 1, -row, 1));
                Edge.due("dark " + row + " -1", x.dark(row, -1), NONE);
                Edge.due("dark -" + row + " 1", x.dark(-row, 1), NONE);
            }
            Edge.no("y that is 0 if 8 y wraps", x.want(0, 0, 1 << 29, 1));
            Edge.due("y that is 0 if 8 y wraps", x.dark(0, 1 << 29), NONE);
            Edge.due("nothing is wanted", x.far(0), 0);
        }
    }

    private static void side() {
        Edge.says("(S 2 .. 8, 4 at first;");
        OneThread x = new OneThread();
        Edge.due("S at first", x.look(0), 4);
        for (int s = 2; s <= 8; s++) {
            Edge.yes("board " + s, x.board(s));
            Edge.due("S", x.look(0), s);
        }
        for (int s : Edge.outside(2, 8)) {
            Edge.no("board " + s, x.board(s));
            Edge.due("S", x.look(0), 8);
        }
        for (int s : new int[] {0, 1}) Edge.no("board " + s, x.board(s));
    }

    /** All of it told once: nothing of it is as at first. */
    private static OneThread told() {
        OneThread x = Edge.pins(3, 0, 3, 33, 30);
        Edge.law(x, "bar when to=3;");
        for (int t = 0; t < 3; t++) x.shade(t, 9 - t);
        for (int p = 0; p < 4; p++) x.want(p, p / 2, p % 2, 50 + p);
        x.weight(0, 0, 9);
        x.weight(1, 1, 0);
        x.line(0, 1);
        x.line(1, 2);
        x.tell(0, 0, 9999);
        for (int t = 0; t < 3; t++) Edge.wind(x, t, 0, 2, 1);
        return x;
    }

    private static void toldAnew() {
        Edge.says("told anew: all is as at first but S, the TAPE, fault() and THE IMAGE).");
        for (int s = 2; s <= 4; s++) {
            OneThread x = told();
            x.image(true);
            Edge.law(x, "may when to/0=1;");
            Edge.put(x, "bar;bar;may;");
            Edge.yes("board", x.board(s));
            Edge.due("S", x.look(0), s);
            for (int what = 1; what <= 5; what++) Edge.due("look " + what, x.look(what), 0);
            for (int t = 0; t < 3; t++) Edge.due("shade " + t, x.look(10 + t), t + 1);
            for (int t = 0; t < 3; t++) Edge.due("wound " + t, x.wound(t, NONE), 0);
            for (int p = 0; p < 4; p++) Edge.due("far " + p, x.far(p), 0);
            for (int i = 0; i < s * s; i++) Edge.due("dark", x.dark(i % s, i / s), 0);
            Edge.due("nothing is told", x.back(0), 1);
            Edge.no("nothing can be undone", x.undo());
            for (int i = 0; i < s * s; i++) x.want(1, i % s, i / s, 1);
            Edge.due("weights", x.far(1), s * s);
            Edge.due("the first pin", x.pin(s, s), 0);
            x.pin(0, 0);
            x.pin(s, 0);
            Edge.due("its line is measured anew", x.samples(0, 2, 0, 0), 0);
            Edge.due("where it is", x.samples(0, 2, s - 1, 0), 8);
            Edge.due("fault", x.fault(0), 2);
            Edge.due("its place", x.fault(1), 12);
            Edge.due("the tape", x.text(), 3);
            Edge.yes("the image", x.image(false));
            Edge.due("its S", x.look(0), 3);
            Edge.due("its pins", x.look(1), 4);
            Edge.due("its length", x.look(5), 18);
        }
        shortBehindLong();
    }

    /** Nothing is left of long lines where short ones of the same pins are. */
    private static void shortBehindLong() {
        OneThread x = Edge.pins(8, 0, 78);
        Edge.wind(x, 0, 0, 1);
        x.line(0, 1);
        Edge.due("dark at its end", x.dark(7, 6), 8);
        x.board(8);
        x.pin(0, 0);
        x.pin(1, 0);
        Edge.wind(x, 0, 0, 1);
        x.line(0, 1);
        for (int i = 0; i < 64; i++) {
            int due = i == 0 ? 8 : 0;
            Edge.due("dark", x.dark(i % 8, i / 8), due);
            Edge.due("samples", x.samples(0, 1, i % 8, i / 8), due);
            Edge.due("drawn", x.drawn(1, 1, i % 8, i / 8), due);
            x.tell(i % 8, i / 8, due);
        }
        Edge.due("told back", x.back(0), 1);
        Edge.due("told back", x.back(1), 1);
        Edge.due("far", x.far(0), 8);
        Edge.due("worst", x.worst(0, 2), 8);
        Edge.due("gain", x.next(0, 0, 1), -8);
    }

    private static void points() {
        Edge.says("POINTS x 0 .. S, y 0 .. S are the corners of squares.");
        for (int s = 2; s <= 8; s++) {
            OneThread x = Edge.pins(s);
            int[][] corners = {{0, 0}, {s, 0}, {0, s}, {s, s}};
            for (int i = 0; i < 4; i++) {
                Edge.due("corner", x.pin(corners[i][0], corners[i][1]), i);
                Edge.due("where it is", x.look(20 + i), corners[i][0] + 10 * corners[i][1]);
            }
            for (int v : Edge.outside(0, s)) {
                Edge.due("x " + v, x.pin(v, 1), NONE);
                Edge.due("y " + v, x.pin(1, v), NONE);
            }
            Edge.due("both", x.pin(s + 1, s + 1), NONE);
            Edge.due("both", x.pin(-1, -1), NONE);
            Edge.due("no pin came by these", x.look(1), 4);
        }
    }

    private static void pins() {
        Edge.says("PINS 0 .. 23 as they come: a POINT (of its own).");
        OneThread x = Edge.pins(4);
        for (int i = 0; i < 24; i++) {
            Edge.due("pin", x.pin(i / 5, i % 5), i);
            Edge.due("its point has one", x.pin(i / 5, i % 5), NONE);
        }
        Edge.due("the last point, but there are 24", x.pin(4, 4), NONE);
        Edge.due("how many", x.look(1), 24);
        Edge.due("23", x.winding(0, 23), 1);
        Edge.due("24", x.winding(1, 24), NONE);
        x = Edge.pins(2);
        for (int i = 0; i < 9; i++) Edge.due("pin", x.pin(2 - i % 3, i / 3), i);
        for (int i = 0; i < 9; i++) Edge.due("each point has one", x.pin(i % 3, i / 3), NONE);
        x.board(8);
        for (int i = 0; i < 24; i++) Edge.due("pin", x.pin(8 - i % 9, 8 - i / 9), i);
        Edge.due("the 25th of 81", x.pin(0, 0), NONE);
    }

    private static void length() {
        Edge.says("A LINE of two unlike PINS has a LENGTH: the greater of both differences of their POINTS,");
        OneThread x = Edge.pins(8, 0, 1, 10, 11, 8, 80, 88, 78);
        int[][] due = {{0, 1, 1}, {0, 2, 1}, {0, 3, 1}, {1, 2, 1}, {0, 4, 8}, {0, 5, 8}, {0, 6, 8}, {4, 5, 8}, {1, 6, 8}, {3, 6, 7}, {6, 7, 1}};
        for (int[] d : due) {
            Edge.wind(x, 0, d[0], d[1]);
            Edge.due("length " + d[0] + " " + d[1], x.look(5), d[2]);
            x.rub(0, 2);
        }
        Edge.due("two that are alike have none", x.samples(3, 3, 0, 0), NONE);
        Edge.due("nor a line", x.line(3, 3), NONE);
    }

    private static int allSamples(OneThread x, int a, int b) {
        int sum = 0;
        int s = x.look(0);
        for (int i = 0; i < s * s; i++) sum += x.samples(a, b, i % s, i / s);
        return sum;
    }

    private static void parts() {
        Edge.says("and N parts, eight for each of that:");
        OneThread x = Edge.pins(8, 0, 1, 88, 7);
        Edge.due("the least: 1", allSamples(x, 0, 1), 8);
        Edge.due("the greatest: 8", allSamples(x, 0, 2), 64);
        Edge.due("7", allSamples(x, 3, 0), 56);
        Edge.due("8, steep", allSamples(x, 2, 3), 64);
    }

    /** From (0, 0) to (5, 3) there are 40 middles, x at (2 i + 1) / 16, y at 3 (2 i + 1) / 80. */
    private static void middles() {
        Edge.says("the middle of part i (0 first) is at (2 i + 1) of 2 N from PIN a to PIN b, a the lesser number;");
        int[][] rising = {{0, 0, 8}, {1, 0, 5}, {1, 1, 3}, {2, 1, 8}, {3, 1, 3}, {3, 2, 5}, {4, 2, 8}};
        OneThread x = Edge.pins(5, 0, 35, 30, 5, 53);
        OneThread y = Edge.pins(5, 53, 5, 30, 35, 0);
        for (int[] r : rising) {
            Edge.due("rising " + r[0] + " " + r[1], x.samples(0, 1, r[0], r[1]), r[2]);
            Edge.due("asked the other way", x.samples(1, 0, r[0], r[1]), r[2]);
            Edge.due("numbered the other way", y.samples(3, 4, r[0], r[1]), r[2]);
            Edge.due("falling", x.samples(2, 3, r[0], 2 - r[1]), r[2]);
            Edge.due("falling, numbered the other way", y.samples(1, 2, r[0], 2 - r[1]), r[2]);
            Edge.due("steep", x.samples(0, 4, r[1], r[0]), r[2]);
        }
        Edge.due("beside", x.samples(0, 1, 0, 1), 0);
        Edge.due("beside", x.samples(0, 1, 2, 2), 0);
    }

    private static void lastSquare() {
        Edge.says("it is in the SQUARE that has the whole parts of its x and y (S - 1, if that is S).");
        for (int s = 2; s <= 8; s++) {
            OneThread x = Edge.pins(s, 0, s, s * 11, s * 10, 1, 1 + s * 10, 10, 10 + s);
            for (int i = 0; i < s; i++) {
                Edge.due("x is S", x.samples(1, 2, s - 1, i), 8);
                Edge.due("y is S", x.samples(2, 3, i, s - 1), 8);
                Edge.due("x is 0", x.samples(0, 3, 0, i), 8);
                Edge.due("y is 0", x.samples(0, 1, i, 0), 8);
                Edge.due("x is 1", x.samples(4, 5, 1, i), 8);
                Edge.due("x is 1: not in 0", x.samples(4, 5, 0, i), 0);
                Edge.due("y is 1", x.samples(6, 7, i, 1), 8);
                Edge.due("y is 1: not in 0", x.samples(6, 7, i, 0), 0);
                Edge.due("both are alike", x.samples(0, 2, i, i), 8);
                Edge.due("both together S", x.samples(1, 3, i, s - 1 - i), 8);
            }
            x = Edge.pins(s, s - 1, s - 1 + s * 10, s, s * 11);
            for (int i = 0; i < s; i++) {
                Edge.due("x is S - 1", x.samples(0, 1, s - 1, i), 8);
                Edge.due("x is S - 1: not ahead", x.samples(0, 1, s - 2, i), 0);
            }
        }
    }

    private static void samples() {
        Edge.says("SAMPLES of a LINE in a SQUARE: how many middles are in it.");
        OneThread x = Edge.pins(8, 0, 78, 88, 87);
        int least = 64;
        int most = 0;
        for (int i = 0; i < 64; i++) {
            int many = x.samples(0, 1, i % 8, i / 8);
            most = Math.max(most, many);
            if (many > 0) least = Math.min(least, many);
        }
        // x at (2 i + 1) / 16, y at 7 (2 i + 1) / 128: one middle of column 1 is below y = 1, one of column 6 above y = 6
        Edge.due("most", most, 8);
        Edge.due("least but none", least, 1);
        Edge.due("one", x.samples(0, 1, 1, 0), 1);
        Edge.due("one", x.samples(0, 1, 6, 6), 1);
        Edge.due("none", x.samples(0, 1, 7, 7), 0);
        Edge.due("all of a short one", x.samples(2, 3, 7, 7), 8);
    }

    private static void threads() {
        Edge.says("THREADS 0 .. 2: each with a SHADE 0 .. 9 (1, 2, 3 at first),");
        OneThread x = Edge.pins(2, 0, 1);
        for (int t = 0; t < 3; t++) {
            Edge.due("at first", x.look(10 + t), t + 1);
            Edge.wind(x, t, 0, 1);
            Edge.yes("0", x.shade(t, 0));
            Edge.due("dark by 0", x.dark(0, 0), t * 72);
            Edge.yes("9", x.shade(t, 9));
            Edge.due("dark by 9", x.dark(0, 0), (t + 1) * 72);
            for (int v : Edge.outside(0, 9)) Edge.no("shade " + v, x.shade(t, v));
            Edge.due("9 yet", x.look(10 + t), 9);
        }
        for (int t : Edge.outside(0, 2)) {
            Edge.no("thread " + t, x.shade(t, 1));
            Edge.due("thread " + t, x.winding(t, 0), NONE);
            Edge.due("thread " + t, x.rub(t, 0), NONE);
            Edge.due("thread " + t, x.wound(t, NONE), NONE);
        }
        Edge.due("dark yet", x.dark(0, 0), 216);
    }

    private static void windingMost() {
        Edge.says("a WINDING: a row of PINS, at most 120, each another one than that ahead of it (empty at first).");
        OneThread x = Edge.pins(2, 0, 1, 2);
        for (int t = 0; t < 3; t++) {
            Edge.due("at first", x.wound(t, NONE), 0);
            for (int i = 0; i < 120; i++) Edge.due("winding", x.winding(t, i % 2), i + 1);
            Edge.due("the 121st", x.winding(t, 0), NONE);
            Edge.due("the 121st, a pin that was never there", x.winding(t, 2), NONE);
            Edge.due("how many", x.wound(t, NONE), 120);
            Edge.due("the last", x.wound(t, 119), 1);
            Edge.due("behind it", x.wound(t, 120), NONE);
        }
        x.rub(1, 1);
        Edge.due("that ahead of it", x.winding(1, 0), NONE);
        Edge.due("another", x.winding(1, 2), 120);
        x.rub(0, 120);
        Edge.due("to any, if it is empty", x.winding(0, 1), 1);
        Edge.due("that ahead of it", x.winding(0, 1), NONE);
        Edge.due("another", x.winding(0, 0), 2);
        Edge.due("that ahead of that", x.winding(0, 1), 3);
    }

    private static void darkMost() {
        Edge.says("DARK of a SQUARE: of all LINES of all WINDINGS (as often as they are there) SHADE times SAMPLES in it, added.");
        OneThread x = Edge.pins(2, 0, 1, 2);
        for (int t = 0; t < 3; t++) x.shade(t, 9);
        Edge.due("no windings", x.dark(0, 0), 0);
        for (int t = 0; t < 3; t++) {
            x.winding(t, 0);
            Edge.due("one pin makes no line", x.dark(0, 0), t * 119 * 72);
            for (int i = 1; i < 120; i++) x.winding(t, i % 2);
        }
        Edge.due("most", x.dark(0, 0), 3 * 119 * 72);
        Edge.due("beside", x.dark(1, 0), 0);
        x.weight(0, 0, 9);
        Edge.due("far without a want", x.far(0), 9 * 3 * 119 * 72);
        x.want(0, 0, 0, 999);
        Edge.due("far", x.far(0), 9 * (3 * 119 * 72 - 999));
        Edge.due("better gone", x.worst(0, 2), 9 * 72);
        x.shade(1, 0);
        Edge.due("two of them", x.dark(0, 0), 2 * 119 * 72);
        x.rub(0, 119);
        Edge.due("one of them", x.dark(0, 0), 119 * 72);
    }

    private static void wants() {
        Edge.says("PICTURES 0 .. 3: for each SQUARE a WANT 0 .. 999 (0 at first).");
        OneThread x = Edge.pins(2);
        for (int p = 0; p < 4; p++) {
            Edge.due("at first", x.far(p), 0);
            Edge.yes("0", x.want(p, 1, 0, 0));
            Edge.due("far", x.far(p), 0);
            Edge.yes("999", x.want(p, 1, 0, 999));
            Edge.due("far", x.far(p), 999);
            for (int v : Edge.outside(0, 999)) Edge.no("want " + v, x.want(p, 1, 0, v));
            Edge.due("999 yet", x.far(p), 999);
        }
        for (int p : Edge.outside(0, 3)) {
            Edge.no("picture " + p, x.want(p, 0, 0, 1));
            Edge.due("picture " + p, x.far(p), NONE);
        }
        for (int p = 0; p < 4; p++) Edge.due("999 yet", x.far(p), 999);
    }

    private static void weights() {
        Edge.says("WEIGHTS of SQUARES 0 .. 9 (1 at first).");
        OneThread x = Edge.pins(3);
        for (int i = 0; i < 9; i++) {
            int before = x.far(0);
            x.want(0, i % 3, i / 3, 10);
            Edge.due("at first", x.far(0) - before, 10);
            Edge.yes("9", x.weight(i % 3, i / 3, 9));
            Edge.due("by 9", x.far(0) - before, 90);
            Edge.yes("0", x.weight(i % 3, i / 3, 0));
            Edge.due("by 0", x.far(0) - before, 0);
            for (int v : Edge.outside(0, 9)) Edge.no("weight " + v, x.weight(i % 3, i / 3, v));
            Edge.due("0 yet", x.far(0) - before, 0);
            x.weight(i % 3, i / 3, i);
        }
        Edge.due("all of them", x.far(0), 360);
    }

    private static void far() {
        Edge.says("FAR of a PICTURE: over all SQUARES WEIGHT times the difference (without sign) of WANT and DARK.");
        OneThread x = Edge.pins(8, 0, 1);
        for (int i = 0; i < 64; i++) {
            x.want(3, i % 8, i / 8, 999);
            x.weight(i % 8, i / 8, 9);
        }
        Edge.due("most that can be wanted", x.far(3), 64 * 9 * 999);
        Edge.due("nothing wanted", x.far(2), 0);
        Edge.wind(x, 0, 0, 1);
        Edge.due("less dark than wanted", x.far(3), 64 * 9 * 999 - 72);
        Edge.due("darker than wanted", x.far(2), 72);
        x.want(2, 0, 0, 8);
        Edge.due("just as dark", x.far(2), 0);
        x.want(2, 0, 0, 7);
        Edge.due("darker by 1", x.far(2), 9);
        x.want(2, 0, 0, 9);
        Edge.due("less dark by 1", x.far(2), 9);
    }
}
