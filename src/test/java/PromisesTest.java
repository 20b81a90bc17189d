/** For each promise of the document: ordinary calls, the edges that it names, and wrong ones. */
public final class PromisesTest {
    private static final int NONE = OneThread.NONE;
    private static int wrong = 0;
    private static String part = "";

    private static void due(String call, int got, int want) {
        if (got != want) {
            wrong++;
            System.out.println(part + ": " + call + " answered " + got + ", due is " + want);
        }
    }

    private static void yes(String call, boolean got) {
        due(call, got ? 1 : 0, 1);
    }

    private static void no(String call, boolean got) {
        due(call, got ? 1 : 0, 0);
    }

    public static void main(String[] args) {
        aNewObject();
        board();
        pin();
        want();
        weight();
        shade();
        winding();
        rub();
        tape();
        text();
        faults();
        limitsOfTheLaw();
        factsOfTheLaw();
        wound();
        dark();
        samples();
        allLines();
        boardsInARow();
        far();
        next();
        greedy();
        full();
        worst();
        lineAndClear();
        threads();
        shortestMore();
        order();
        tellAndBack();
        like();
        rule();
        undo();
        image();
        look();
        System.out.println(wrong == 0 ? "promises: all answers are as due" : "promises: " + wrong + " answers are not as due");
        if (wrong != 0) System.exit(1);
    }

    /** Pins 0 to 3 at the corners of a board, round from (0, 0) by (s, 0). */
    private static OneThread corners(int s) {
        OneThread x = new OneThread();
        x.board(s);
        x.pin(0, 0);
        x.pin(s, 0);
        x.pin(s, s);
        x.pin(0, s);
        return x;
    }

    /** Pins in a row from (0, 0) on, and on in the next row. */
    private static OneThread grid(int s, int pins) {
        OneThread x = new OneThread();
        x.board(s);
        for (int i = 0; i < pins; i++) x.pin(i % (s + 1), i / (s + 1));
        return x;
    }

    private static void put(OneThread x, String text) {
        for (int i = 0; i < text.length(); i += 20) {
            int[] five = new int[5];
            for (int j = 0; j < 20; j++) {
                five[j / 4] = five[j / 4] << 8 | (i + j < text.length() ? text.charAt(i + j) : 0);
            }
            x.feed(five[0], five[1], five[2], five[3], five[4]);
        }
        x.end(text.length());
    }

    private static int law(OneThread x, String text) {
        put(x, text);
        return x.text();
    }

    private static void aNewObject() {
        part = "1 a new object";
        OneThread x = new OneThread();
        due("S", x.look(0), 4);
        for (int what = 1; what <= 5; what++) due("look " + what, x.look(what), 0);
        for (int t = 0; t < 3; t++) due("shade " + t, x.look(10 + t), t + 1);
        for (int t = 0; t < 3; t++) due("wound " + t, x.wound(t, NONE), 0);
        due("fault", x.fault(0), 0);
        due("place", x.fault(1), NONE);
        no("undo", x.undo());
        no("image", x.image(false));
        due("far", x.far(3), 0);
        due("tape", x.feed(0, 0, 0, 0, 0), 20);
        due("NONE", OneThread.NONE, -1);
    }

    private static void board() {
        part = "2 board";
        OneThread x = corners(3);
        due("S", x.look(0), 3);
        law(x, "bar;");
        law(x, "may");
        x.feed(1, 2, 3, 4, 5);
        x.image(true);
        x.winding(0, 0);
        x.shade(1, 9);
        x.want(2, 0, 0, 5);
        x.weight(0, 0, 7);
        x.line(0, 1);
        x.tell(0, 0, 9);
        x.winding(1, 1);
        for (int s : new int[] {1, 0, -1, 9, Integer.MIN_VALUE, Integer.MAX_VALUE}) no("board " + s, x.board(s));
        due("pins are kept", x.look(1), 4);
        due("what can be undone is kept", x.look(4), 1);
        yes("the same S told anew", x.board(3));
        for (int what = 1; what <= 5; what++) due("look " + what, x.look(what), 0);
        due("shade", x.look(11), 2);
        due("wound", x.wound(0, NONE), 0);
        due("far", x.far(2), 0);
        x.want(0, 0, 0, 1);
        due("weight", x.far(0), 1);
        due("none is told", x.back(0), 1);
        no("undo", x.undo());
        due("fault stays", x.fault(0), 1);
        due("its place stays", x.fault(1), 3);
        due("the tape stays", x.feed(1, 2, 3, 4, 5), 40);
        yes("the image stays", x.image(false));
        due("pins of the image", x.look(1), 4);
        due("the law of the image", x.look(3), 1);
        yes("least", x.board(2));
        yes("most", x.board(8));
        due("a corner", x.pin(8, 8), 0);
    }

    private static void pin() {
        part = "3 pin";
        OneThread x = new OneThread();
        due("first", x.pin(4, 4), 0);
        due("second", x.pin(4, 0), 1);
        due("a point that has one", x.pin(4, 4), NONE);
        due("x + 1", x.pin(5, 0), NONE);
        due("y + 1", x.pin(0, 5), NONE);
        due("x below", x.pin(-1, 0), NONE);
        due("y below", x.pin(0, -1), NONE);
        due("how many", x.look(1), 2);
        x.winding(0, 0);
        due("one that can't be forgets nothing", x.pin(4, 4) + x.look(4), 0);
        due("third", x.pin(0, 0), 2);
        due("a pin forgets what can be undone", x.look(4), 0);
        x = grid(4, 23);
        due("the 24th", x.pin(4, 4), 23);
        due("the 25th", x.pin(3, 4), NONE);
        due("how many", x.look(1), 24);
    }

    private static void want() {
        part = "4 want";
        OneThread x = new OneThread();
        yes("most", x.want(3, 3, 3, 999));
        due("far", x.far(3), 999);
        due("another picture", x.far(2), 0);
        yes("anew", x.want(3, 3, 3, 5));
        due("far", x.far(3), 5);
        yes("x is not y", x.want(3, 1, 2, 7));
        due("far", x.far(3), 12);
        yes("none", x.want(3, 3, 3, 0));
        due("far", x.far(3), 7);
        int[][] bad = {{-1, 0, 0, 1}, {4, 0, 0, 1}, {0, -1, 0, 1}, {0, 4, 0, 1}, {0, 0, -1, 1}, {0, 0, 4, 1}, {0, 0, 0, -1}, {0, 0, 0, 1000}};
        for (int[] b : bad) no("want", x.want(b[0], b[1], b[2], b[3]));
        due("far", x.far(0), 0);
        x.pin(0, 0);
        x.winding(0, 0);
        x.want(0, 0, 0, 1);
        due("a picture forgets nothing", x.look(4), 1);
    }

    private static void weight() {
        part = "5 weight";
        OneThread x = new OneThread();
        x.want(0, 1, 2, 10);
        x.want(0, 2, 1, 100);
        yes("most", x.weight(1, 2, 9));
        due("far", x.far(0), 190);
        yes("least", x.weight(2, 1, 0));
        due("far", x.far(0), 90);
        int[][] bad = {{-1, 0, 1}, {4, 0, 1}, {0, -1, 1}, {0, 4, 1}, {1, 2, -1}, {1, 2, 10}};
        for (int[] b : bad) no("weight", x.weight(b[0], b[1], b[2]));
        due("far", x.far(0), 90);
        x.pin(0, 0);
        x.winding(0, 0);
        x.weight(0, 0, 2);
        due("a weight forgets nothing", x.look(4), 1);
    }

    private static void shade() {
        part = "6 shade";
        OneThread x = corners(2);
        x.winding(2, 0);
        x.winding(2, 1);
        due("dark by 3", x.dark(0, 0), 24);
        no("thread 3", x.shade(3, 1));
        no("thread -1", x.shade(-1, 1));
        no("10", x.shade(2, 10));
        no("-1", x.shade(2, -1));
        due("shade", x.look(12), 3);
        due("nothing forgotten", x.look(4), 2);
        yes("9", x.shade(2, 9));
        due("dark by 9", x.dark(0, 0), 72);
        due("a shade forgets what can be undone", x.look(4), 0);
        yes("0", x.shade(2, 0));
        due("dark by 0", x.dark(0, 0), 0);
        due("others", x.look(10) * 10 + x.look(11), 12);
    }

    private static void winding() {
        part = "7 winding";
        OneThread x = corners(4);
        due("no such thread", x.winding(3, 0), NONE);
        due("no such thread", x.winding(-1, 0), NONE);
        due("no such pin", x.winding(0, 4), NONE);
        due("no such pin", x.winding(0, -1), NONE);
        due("first", x.winding(0, 3), 1);
        due("where it is", x.winding(0, 3), NONE);
        due("second", x.winding(0, 0), 2);
        due("back", x.winding(0, 3), 3);
        due("another thread", x.winding(1, 3), 1);
        law(x, "bar;");
        due("barred", x.winding(0, 0), -2);
        due("where it is comes ahead of the law", x.winding(0, 3), NONE);
        due("nothing is done", x.wound(0, NONE), 3);
        due("an empty winding: the law is not asked", x.winding(2, 1), 1);
        due("it is then", x.winding(2, 0), -2);
        x = corners(4);
        for (int i = 0; i < 120; i++) due("winding", x.winding(1, i % 2), i + 1);
        due("the 121st", x.winding(1, 0), NONE);
        law(x, "bar;");
        due("the 121st, barred", x.winding(1, 0), NONE);
        due("how many", x.wound(1, NONE), 120);
        due("dark", x.dark(2, 0), 119 * 2 * 8);
    }

    private static void rub() {
        part = "8 rub";
        OneThread x = corners(2);
        for (int i = 0; i < 6; i++) x.winding(0, i % 4);
        x.winding(1, 2);
        due("more than there are", x.rub(0, 7), NONE);
        due("below 0", x.rub(0, -1), NONE);
        due("no thread", x.rub(3, 0), NONE);
        due("no thread", x.rub(-1, 0), NONE);
        due("nothing forgotten", x.look(4), 7);
        due("two", x.rub(0, 2), 4);
        due("forgotten", x.look(4), 0);
        due("the last", x.wound(0, 3), 3);
        due("gone", x.wound(0, 4), NONE);
        due("dark", x.dark(0, 0), 8);
        due("dark", x.dark(1, 1), 16);
        x.winding(0, 0);
        due("none", x.rub(0, 0), 5);
        due("forgotten by it too", x.look(4), 0);
        due("all", x.rub(0, 5), 0);
        due("dark", x.dark(1, 1), 0);
        due("to any then", x.winding(0, 0), 1);
        due("another thread is not touched", x.wound(1, 0), 2);
    }

    private static void tape() {
        part = "9 feed, 10 end";
        OneThread x = new OneThread();
        for (int i = 1; i <= 20; i++) due("feed", x.feed(0x20202020, 0x20202020, 0x20202020, 0x20202020, 0x20202020), 20 * i);
        due("the 401st", x.feed(0, 0, 0, 0, 0), NONE);
        no("more than it has", x.end(401));
        no("below 0", x.end(-1));
        yes("as many", x.end(400));
        yes("381", x.end(381));
        due("401 again", x.feed(0, 0, 0, 0, 0), NONE);
        yes("380", x.end(380));
        due("400 again", x.feed(0x20202020, 0x20202020, 0x20202020, 0x6d61793b, 0x20202021), 400);
        due("the last byte can't stand there", x.text(), NONE);
        due("its place", x.fault(1), 399);
        no("empty then", x.end(1));
        yes("no bytes", x.end(0));
        due("of each number the highest first", x.feed(0x6d61793b, 0x6261723b, 0x0a6d6179, 0x0a3b2020, 0x6261723b), 20);
        due("lines", x.text(), 4);
        due("bytes of 128 and more", x.feed(0xffffffff, -1, -1, -1, -1), 20);
        due("can't stand there", x.text(), NONE);
        due("its place", x.fault(1), 0);
    }

    private static void text() {
        part = "11 text, 12 fault";
        OneThread x = corners(2);
        due("fault of no text", x.fault(0), 0);
        due("place of no text", x.fault(1), NONE);
        due("another what", x.fault(2), NONE);
        due("another what", x.fault(-1), NONE);
        due("two lines", law(x, "bar when to=1;may;"), 2);
        due("lines", x.look(3), 2);
        x.winding(0, 0);
        due("barred", x.winding(0, 1), -2);
        due("a fault", law(x, "may;\nbar when to=1 ;;"), NONE);
        due("fault", x.fault(0), 1);
        due("place", x.fault(1), 20);
        due("the law stays as it was", x.look(3), 2);
        due("barred yet", x.winding(0, 1), -2);
        due("the tape is empty then", x.feed(0, 0, 0, 0, 0), 20);
        x.end(0);
        due("a text forgets nothing", x.look(4), 1);
        due("no text", x.text(), 0);
        due("no fault", x.fault(0), 0);
        due("no place", x.fault(1), NONE);
        due("the law is empty", x.look(3), 0);
        due("not barred", x.winding(0, 1), 2);
        due("blanks alone", law(x, " \n  \n"), 0);
    }

    private static void faultOf(String text, int fault, int place) {
        OneThread x = new OneThread();
        int lines = law(x, text);
        if (fault != 0) due("text of " + text, lines, NONE);
        due("fault of " + text, x.fault(0), fault);
        due("place of " + text, x.fault(1), place);
    }

    private static void faults() {
        part = "12 fault";
        faultOf("may;", 0, NONE);
        faultOf("may", 1, 3);
        faultOf("may  ", 1, 5);
        faultOf("when to=1;", 1, 0);
        faultOf(";", 1, 0);
        faultOf("may when;", 1, 8);
        faultOf("may when to;", 1, 11);
        faultOf("may when to=;", 1, 12);
        faultOf("may when to=1", 1, 13);
        faultOf("may when to=1=1;", 1, 13);
        faultOf("may when to<>1;", 1, 12);
        faultOf("may when -1<to;", 1, 9);
        faultOf("may when (to)=1;", 1, 12);
        faultOf("may when (to=1;", 1, 14);
        faultOf("may when to=1);", 1, 13);
        faultOf("may when to=(1);", 1, 12);
        faultOf("may when to=1 and;", 1, 17);
        faultOf("may when to=1 or or to=2;", 1, 17);
        faultOf("may when not;", 1, 12);
        faultOf("may when to=not 1;", 1, 12);
        faultOf("may may;", 1, 4);
        faultOf("maybar;", 1, 0);
        faultOf("May;", 1, 0);
        faultOf("mayX;", 1, 0);
        for (String letter : new String[] {"a", "z", "A", "Z"}) faultOf("may" + letter + ";", 1, 0);
        for (String sign : new String[] {"`", "{", "@", "[", "_", "0", ":"}) faultOf("may" + sign + ";", 1, 3);
        faultOf("ma;", 1, 0);
        faultOf("lengths;", 1, 0);
        faultOf("may when lengths=1;", 1, 9);
        faultOf("may when line=1;", 1, 9);
        faultOf("may\t;", 1, 3);
        faultOf("may\r;", 1, 3);
        faultOf("may\n;", 0, NONE);
        faultOf("may when to=9999;", 0, NONE);
        faultOf("may when to=12345;", 1, 12);
        faultOf("may when to=00000;", 1, 12);
        faultOf("may when to=0000;", 0, NONE);
        faultOf("may when 1to=1;", 1, 10);
        faultOf("may when to=1or to=2and 3=3;", 0, NONE);
        faultOf("may when to/0=1;", 2, 12);
        faultOf("may when to/ 0000=1;", 2, 13);
        faultOf("may when to/00000=1;", 1, 12);
        faultOf("may when to/to=1;", 1, 12);
        faultOf("may when to/2/3*4/5=1/6;", 0, NONE);
        faultOf("may when to*0=1;", 0, NONE);
        faultOf("may when to/0=1;;", 2, 12);
        faultOf("may;; bar when to/0=1;", 1, 4);
        faultOf("may when to/1+", 1, 14);
        faultOf("\u00e9", 1, 0);
        faultOf("may when thread=0 and wound=0 and turn=0 and used=0 and shade=0 and from=0 and length=0 or to=0;", 0, NONE);
    }

    private static void limitsOfTheLaw() {
        part = "12 fault 3";
        String sixteen = "may;bar;may;bar;may;bar;may;bar;may;bar;may;bar;may;bar;may;bar;";
        faultOf(sixteen, 0, NONE);
        faultOf(sixteen + " may;", 3, 65);
        faultOf(sixteen + "bar when to/0=1;", 3, 64);
        faultOf(sixteen + "when", 1, 64);
        faultOf(sixteen + "mayb", 1, 64);
        String eight = "may when ((((((((to=1))))))))";
        faultOf(eight + ";", 0, NONE);
        faultOf(eight + " or ((((((((to=1))))))));", 0, NONE);
        faultOf("may when (((((((((to=1)))))))));", 3, 17);
        faultOf("may when not not not not not not not not to=1;", 0, NONE);
        faultOf("may when not not not not not not not not not to=1;", 3, 41);
        faultOf("may when not not not not not not not not (to=1);", 3, 41);
        faultOf("may when not (not (not (not (not to=1))));", 3, 29);
        faultOf("may when not (not (not (not (to=1))) and not (to=1));", 0, NONE);
        faultOf("may when not not not not not not not to=1 and not not not not not not not not to=1;", 0, NONE);
        faultOf("may when not not not not not not not (to=1 and not to=1);", 3, 47);
        faultOf("may when not not not not not not not (to=1) and (not to=1);", 0, NONE);
        faultOf("may when (((((((((to/0=1)))))))));", 3, 17);
    }

    /** Whether thread 0, which came from pin 1 by pin 0 to pin 1, may go on to pin 2 by a law. */
    private static void goes(String when, boolean want) {
        OneThread x = grid(4, 10);
        x.winding(0, 1);
        x.winding(0, 0);
        x.winding(0, 1);
        x.winding(2, 2);
        x.winding(2, 1);
        due("text " + when, law(x, "may when " + when + ";bar;"), 2);
        due("may go when " + when, x.winding(0, 2), want ? 4 : -2);
    }

    private static void factsOfTheLaw() {
        part = "7 winding by the law";
        goes("from=1", true);
        goes("to=2", true);
        goes("length=1", true);
        goes("used=1", true);
        goes("thread=0", true);
        goes("wound=3", true);
        goes("turn=0", true);
        goes("shade=1", true);
        goes("from=2", false);
        goes("not from=2", true);
        goes("1+2*3=7", true);
        goes("10-2-3=5", true);
        goes("10-2*3+1=5", true);
        goes("2*3/4*5=5", true);
        goes("7/2*2=6", true);
        goes("from-8=0-7", true);
        goes("0=1-1 and 2<3", true);
        goes("0*7-7<0", true);
        // towards 0: what is below 0 comes of a product that wraps, as no sign may stand ahead
        goes("9999*9999=9998*5000*2+1", true);
        goes("9999*9999*22<0", true);
        goes("9999*9999*22/1000=0-2095*1000-407", true);
        goes("1<1", false);
        goes("1>1", false);
        goes("2>1", true);
        goes("1=1 or 1=1 and 1=2", true);
        goes("(1=1 or 1=1) and 1=2", false);
        goes("not 1=2 and 1=2", false);
        goes("not (1=2 and 1=2)", true);
        goes("not not 1=1", true);
        goes("1=2 or 1=2 or 1=1", true);
        OneThread x = grid(4, 10);
        x.winding(0, 0);
        x.winding(0, 1);
        law(x, "bar when turn=1;may when to=2;bar when to>1;");
        due("turn", x.winding(0, 0), -2);
        due("the first line that is so", x.winding(0, 2), 3);
        due("the third line", x.winding(0, 3), -2);
        due("yes without one", x.winding(0, 0), 4);
        law(x, "bar when wound=1 and turn=0;");
        x.winding(1, 5);
        due("no pin ahead of from: turn is 0", x.winding(1, 6), -2);
        law(x, "bar when length>3;");
        due("length 4", x.winding(0, 4), -2);
        due("length is the greater difference", x.winding(0, 9), -2);
        due("length 3", x.winding(0, 8), 5);
        x.shade(0, 7);
        law(x, "may when shade=7;bar;");
        due("shade", x.winding(0, 0), 6);
        law(x, "bar when used>1;");
        x.winding(2, 8);
        due("used either way, twice", x.winding(2, 0), -2);
        x.rub(0, 1);
        due("used once", x.winding(2, 0), 2);
        due("used twice then", x.winding(0, 0), -2);
    }

    private static void wound() {
        part = "13 wound";
        OneThread x = corners(2);
        x.winding(1, 3);
        x.winding(1, 0);
        due("how many", x.wound(1, NONE), 2);
        due("pin 0", x.wound(1, 0), 3);
        due("pin 1", x.wound(1, 1), 0);
        due("pin 2", x.wound(1, 2), NONE);
        due("below", x.wound(1, -2), NONE);
        due("another", x.wound(0, 0), NONE);
        due("another's", x.wound(0, NONE), 0);
        due("no thread", x.wound(3, NONE), NONE);
        due("no thread", x.wound(-1, 0), NONE);
    }

    private static void dark() {
        part = "14 dark";
        OneThread x = corners(2);
        x.winding(0, 0);
        due("a pin alone", x.dark(0, 0), 0);
        x.winding(0, 2);
        x.winding(1, 2);
        x.winding(1, 0);
        x.winding(1, 2);
        due("as often as they are there", x.dark(0, 0), 8 + 16 + 16);
        due("beside", x.dark(1, 0), 0);
        for (int i = -1; i < 3; i += 3) {
            due("no such", x.dark(i, 0), NONE);
            due("no such", x.dark(0, i), NONE);
        }
    }

    private static void samples() {
        part = "15 samples";
        OneThread x = corners(3);
        due("right edge", x.samples(1, 2, 2, 1), 8);
        due("lower edge", x.samples(3, 2, 1, 2), 8);
        x.pin(1, 0);
        x.pin(1, 3);
        due("an inner edge is in the square behind it", x.samples(4, 5, 1, 1), 8);
        due("and not in that ahead", x.samples(5, 4, 0, 1), 0);
        x.pin(3, 1);
        // from (0, 0) to (3, 1): y is below 1 everywhere
        due("flat", x.samples(0, 6, 2, 0), 8);
        x.pin(0, 2);
        // from (3, 0) to (0, 2): 24 middles, x = 3 - (2 i + 1) / 16, y = (2 i + 1) / 24
        due("falling", x.samples(1, 7, 2, 0), 8);
        due("falling", x.samples(1, 7, 1, 0), 4);
        due("falling", x.samples(1, 7, 1, 1), 4);
        due("falling", x.samples(7, 1, 0, 1), 8);
        due("one short", x.samples(0, 4, 0, 0), 8);
        due("alike", x.samples(1, 1, 0, 0), NONE);
        due("no pin", x.samples(0, 8, 0, 0), NONE);
        due("no pin", x.samples(-1, 0, 0, 0), NONE);
        due("no square", x.samples(0, 1, 3, 0), NONE);
        due("no square", x.samples(0, 1, 0, -1), NONE);
    }

    /**
     * Every line of 24 pins has eight middles for each of its length, and no two lines share a place:
     * all are asked for once ahead of the one that is looked at, which is 512 calls at most.
     */
    private static void allLines() {
        part = "15 samples of all lines";
        for (int s = 4; s <= 8; s++) {
            for (int b = 0; b < 24; b++) {
                for (int a = 0; a < b; a++) {
                    OneThread x = scattered(s);
                    for (int d = 0; d < 24; d++) for (int c = 0; c < d; c++) x.samples(c, d, 0, 0);
                    allOf(x, a, b, s);
                }
            }
        }
    }

    /** 24 pins, the last ones far from one another, so that the last lines are long. */
    private static OneThread scattered(int s) {
        OneThread x = new OneThread();
        x.board(s);
        for (int i = 0; i < 24; i++) x.pin(i * 5 % (s + 1), i * 7 / (s + 1) % (s + 1));
        for (int i = 0; i < 24; i++) x.pin(i % (s + 1), i / (s + 1));
        return x;
    }

    private static void allOf(OneThread x, int a, int b, int s) {
        int p = x.look(20 + a);
        int q = x.look(20 + b);
        int length = Math.max(Math.abs(p % 10 - q % 10), Math.abs(p / 10 - q / 10));
        int sum = 0;
        for (int i = 0; i < s * s; i++) {
            int many = 0;
            for (int j = 0; j < 8 * length; j++) {
                int n = 16 * length;
                int mx = (p % 10 * n + (q % 10 - p % 10) * (2 * j + 1)) / n;
                int my = (p / 10 * n + (q / 10 - p / 10) * (2 * j + 1)) / n;
                if (Math.min(mx, s - 1) == i % s && Math.min(my, s - 1) == i / s) many++;
            }
            int got = i % 2 == 0 ? x.samples(a, b, i % s, i / s) : x.samples(b, a, i % s, i / s);
            due("samples " + a + " " + b + " of S " + s, got, many);
            sum += got;
        }
        due("all samples " + a + " " + b, sum, 8 * length);
    }

    /** What was measured on a board is nothing to the next one, where the same lines are shorter. */
    private static void boardsInARow() {
        part = "2 board, lines measured anew";
        OneThread x = new OneThread();
        x.board(8);
        x.pin(0, 0);
        x.pin(8, 0);
        x.samples(0, 1, 0, 0);
        yes("board", x.board(4));
        x.pin(0, 0);
        x.pin(1, 0);
        due("samples", x.samples(0, 1, 0, 0), 8);
        due("none where it went", x.samples(0, 1, 1, 0), 0);
        x.winding(0, 0);
        due("gain", x.next(0, 0, 1), -8);
        x.winding(0, 1);
        due("dark", x.dark(1, 0), 0);
        due("worst", x.worst(0, 2), 8);
        x.line(0, 1);
        x.tell(1, 0, 0);
        x.tell(0, 0, 8);
        due("told back", x.back(0), 1);
        due("which", x.back(1), 1);
        due("drawn", x.drawn(1, 1, 1, 0), 0);
    }

    private static void far() {
        part = "16 far";
        OneThread x = corners(2);
        x.winding(0, 0);
        x.winding(0, 1);
        due("dark without a want", x.far(1), 16);
        x.want(1, 0, 0, 20);
        x.want(1, 0, 1, 4);
        due("both ways", x.far(1), 12 + 8 + 4);
        x.weight(1, 0, 5);
        due("weights", x.far(1), 12 + 40 + 4);
        due("no picture", x.far(-1), NONE);
        due("no picture", x.far(4), NONE);
    }

    private static void next() {
        part = "17 next";
        OneThread x = corners(2);
        x.want(1, 1, 0, 8);
        x.want(1, 1, 1, 8);
        due("empty: none", x.next(0, 1, 0), NONE);
        due("empty: 0", x.next(0, 1, 1), 0);
        x.winding(0, 1);
        due("pin", x.next(0, 1, 0), 2);
        due("gain", x.next(0, 1, 1), 16);
        due("another picture: of several the least", x.next(0, 0, 0), 0);
        due("below 0", x.next(0, 0, 1), -16);
        law(x, "bar when to=2;");
        due("by the law, of several the least", x.next(0, 1, 0), 0);
        due("gain", x.next(0, 1, 1), 0);
        law(x, "bar when to=2 or to=0;");
        due("by the law", x.next(0, 1, 0), 3);
        law(x, "bar;");
        due("none", x.next(0, 1, 0), NONE);
        due("gain without one", x.next(0, 1, 1), 0);
        int bad = -1000000;
        due("no thread", x.next(3, 1, 0), bad);
        due("no thread", x.next(-1, 1, 0), bad);
        due("no picture", x.next(0, 4, 0), bad);
        due("no picture", x.next(0, -1, 0), bad);
        due("what", x.next(0, 1, 2), bad);
        due("what", x.next(0, 1, -1), bad);
        due("nothing is wound", x.wound(0, NONE), 1);
    }

    private static void greedy() {
        part = "18 greedy";
        OneThread x = corners(2);
        for (int i = 0; i < 4; i++) x.want(0, i % 2, i / 2, 400);
        due("empty", x.greedy(0, 0, 3, 0), 0);
        due("empty: far", x.greedy(0, 0, 3, 1), 1600);
        due("empty: pin", x.greedy(0, 0, 3, 2), NONE);
        x.winding(0, 0);
        due("at most", x.greedy(0, 0, 40, 0), 40);
        due("far", x.greedy(0, 0, 40, 1), 1600 - 640);
        due("0 to 1 and back: the least of several", x.greedy(0, 0, 3, 2), 1);
        due("nothing is wound", x.wound(0, NONE), 1);
        due("nor dark", x.dark(0, 0), 0);
        due("nor to be undone", x.look(4), 1);
        law(x, "bar when used>0;");
        due("lines used in thought count", x.greedy(0, 0, 40, 0), 5);
        due("far", x.greedy(0, 0, 40, 1), 1600 - 80);
        // 0 1 2 0 3 1 and no more: 1 has lines to 0, 2, 3
        due("pin", x.greedy(0, 0, 40, 2), 1);
        law(x, "bar when wound>3;");
        due("pins wound in thought count", x.greedy(0, 0, 40, 0), 3);
        law(x, "bar when turn=1;");
        due("turns in thought count", x.greedy(0, 0, 2, 2), 2);
        x.text();
        x.shade(0, 0);
        due("no gain", x.greedy(0, 0, 40, 0), 0);
        due("no gain: pin", x.greedy(0, 0, 40, 2), 0);
        int[][] bad = {{3, 0, 1, 0}, {-1, 0, 1, 0}, {0, 4, 1, 0}, {0, -1, 1, 0}, {0, 0, 0, 0}, {0, 0, 41, 0}, {0, 0, 1, 3}, {0, 0, 1, -1}};
        for (int[] b : bad) due("greedy", x.greedy(b[0], b[1], b[2], b[3]), NONE);
    }

    /** A winding has 120 pins at most, so a thread that has them goes on to none. */
    private static void full() {
        part = "17, 18 with 120 pins";
        OneThread x = corners(2);
        x.shade(1, 0);
        for (int i = 0; i < 118; i++) x.winding(1, i % 2);
        x.shade(1, 1);
        for (int i = 0; i < 4; i++) x.want(0, i % 2, i / 2, 999);
        due("two more", x.greedy(1, 0, 40, 0), 2);
        x.winding(1, 2);
        x.winding(1, 3);
        due("none more", x.greedy(1, 0, 40, 0), 0);
        due("next", x.next(1, 0, 0), NONE);
        due("gain", x.next(1, 0, 1), 0);
    }

    private static void worst() {
        part = "19 worst";
        OneThread x = corners(2);
        due("no lines", x.worst(0, 0), NONE);
        x.winding(0, 0);
        due("no lines", x.worst(0, 2), NONE);
        x.winding(0, 1);
        x.winding(0, 2);
        due("thread: of several the first", x.worst(0, 0), 0);
        due("place", x.worst(0, 1), 0);
        due("by", x.worst(0, 2), 16);
        x.want(0, 0, 0, 8);
        due("place", x.worst(0, 1), 1);
        x.winding(2, 3);
        x.winding(2, 2);
        due("thread", x.worst(0, 0), 2);
        due("place", x.worst(0, 1), 0);
        due("by", x.worst(0, 2), 48);
        x.want(1, 0, 0, 8);
        x.want(1, 1, 0, 16);
        x.want(1, 1, 1, 32);
        x.want(1, 0, 1, 24);
        due("none that were better gone", x.worst(1, 0), NONE);
        due("by", x.worst(1, 2), NONE);
        due("what", x.worst(0, 3), NONE);
        due("what", x.worst(0, -1), NONE);
        due("picture", x.worst(4, 0), NONE);
        due("picture", x.worst(-1, 0), NONE);
        x.weight(0, 1, 0);
        x.weight(1, 1, 0);
        due("without weights it is no worse", x.worst(0, 0), 0);
        byOne();
    }

    /** A line with an odd number of middles in a square that alone has a weight. */
    private static void byOne() {
        OneThread x = new OneThread();
        x.board(3);
        x.pin(0, 0);
        x.pin(3, 2);
        x.winding(0, 0);
        x.winding(0, 1);
        for (int i = 0; i < 9; i++) x.weight(i % 3, i / 3, 0);
        x.weight(0, 0, 1);
        x.want(0, 0, 0, 3);
        x.shade(0, 0);
        due("no less without it", x.worst(0, 2), NONE);
        x.shade(0, 1);
        due("by 2", x.worst(0, 2), 2);
        x.board(5);
        x.pin(0, 0);
        x.pin(5, 3);
        due("middles", x.samples(0, 1, 1, 1), 3);
        x.winding(0, 0);
        x.winding(0, 1);
        for (int i = 0; i < 25; i++) x.weight(i % 5, i / 5, 0);
        x.weight(1, 1, 1);
        x.want(0, 1, 1, 1);
        due("by 1", x.worst(0, 2), 1);
        x.want(0, 1, 1, 2);
        due("by less than 0", x.worst(0, 2), NONE);
    }

    private static void lineAndClear() {
        part = "20 line, 21 clear";
        OneThread x = grid(4, 24);
        x.winding(0, 0);
        due("first", x.line(5, 3), 0);
        due("in it", x.line(5, 3), NONE);
        due("in it the other way", x.line(3, 5), NONE);
        due("alike", x.line(3, 3), NONE);
        due("no pin", x.line(3, 24), NONE);
        due("no pin", x.line(-1, 3), NONE);
        for (int i = 1; i < 20; i++) due("line", x.line(0, i), i);
        due("21st", x.line(0, 20), NONE);
        due("how many", x.look(2), 20);
        due("clear", x.clear(), 20);
        due("how many", x.look(2), 0);
        due("clear", x.clear(), 0);
        due("anew", x.line(3, 5), 0);
        due("the set forgets nothing", x.look(4), 1);
    }

    private static void threads() {
        part = "22 thread";
        OneThread x = grid(4, 24);
        int[] none = {0, 0, NONE, 0, 0, NONE};
        for (int w = 0; w < 6; w++) due("no lines, what " + w, x.thread(w), none[w]);
        x.line(0, 1);
        int[] one = {1, 0, 0, 2, 1, NONE};
        for (int w = 0; w < 6; w++) due("one line, what " + w, x.thread(w), one[w]);
        x.line(2, 3);
        x.line(3, 4);
        x.line(4, 2);
        int[] two = {2, 1, NONE, 2, 2, NONE};
        for (int w = 0; w < 6; w++) due("a line and a ring, what " + w, x.thread(w), two[w]);
        for (int i = 10; i < 15; i++) x.line(9, i);
        int[] three = {5, 4, NONE, 8, 3, NONE};
        for (int w = 0; w < 6; w++) due("and a star, what " + w, x.thread(w), three[w]);
        due("what -1", x.thread(-1), NONE);
    }

    private static void shortestMore() {
        part = "22 thread, shortest more";
        OneThread x = grid(8, 9);
        x.pin(0, 8);
        // a star about 9, far off the row 0 .. 8
        x.line(9, 0);
        x.line(9, 1);
        due("two odd: none more", x.thread(2), 0);
        x.line(9, 5);
        due("four odd: 0 to 1 is nearest", x.thread(2), 1);
        x.line(9, 8);
        x.line(9, 7);
        due("six odd", x.thread(2), 2);
        x.line(0, 1);
        due("two even again: 5 7 8 9", x.thread(2), 1);
        x = grid(4, 24);
        for (int i = 1; i < 12; i++) x.line(0, i);
        due("12 are odd", x.thread(3), 12);
        due("12: 11 and the first ten, all but one by 1", x.thread(2), 5);
        x.line(0, 12);
        due("12 yet", x.thread(2), 5);
        x.line(0, 13);
        due("14 are odd", x.thread(3), 14);
        due("more than 12", x.thread(2), NONE);
        x.clear();
        x.line(0, 1);
        x.line(2, 3);
        due("two parts", x.thread(2), NONE);
    }

    private static void row(OneThread x, int... pins) {
        for (int i = 0; i < pins.length; i++) due("order " + i, x.order(i), pins[i]);
        due("behind", x.order(pins.length), NONE);
        due("ahead", x.order(-1), NONE);
    }

    private static void order() {
        part = "23 order";
        OneThread x = grid(4, 10);
        due("no lines", x.order(0), NONE);
        x.line(7, 4);
        row(x, 4, 7);
        x.line(4, 9);
        row(x, 7, 4, 9);
        x.line(9, 7);
        row(x, 4, 7, 9, 4);
        x.line(9, 0);
        row(x, 0, 9, 4, 7, 9);
        x.line(9, 1);
        row(x, 0, 9, 4, 7, 9, 1);
        x.line(9, 2);
        due("two threads", x.order(0), NONE);
        x.line(9, 3);
        due("two threads", x.order(0), NONE);
        x.clear();
        // a ring 1 2 3 with another 3 4 5: through 3 to 4 first would leave nothing out, to 1 would
        x.line(1, 2);
        x.line(2, 3);
        x.line(3, 1);
        x.line(3, 4);
        x.line(4, 5);
        x.line(5, 3);
        row(x, 1, 2, 3, 4, 5, 3, 1);
        x.line(6, 7);
        due("two parts", x.order(0), NONE);
    }

    private static void tellAndBack() {
        part = "24 tell, 25 back";
        OneThread x = corners(2);
        x.winding(0, 0);
        int[][] bad = {{-1, 0, 0}, {2, 0, 0}, {0, -1, 0}, {0, 2, 0}, {0, 0, -2}, {0, 0, 10000}};
        for (int[] b : bad) no("tell", x.tell(b[0], b[1], b[2]));
        due("the empty set alone", x.back(0), 1);
        due("it is the first", x.back(1), 0);
        yes("most", x.tell(0, 0, 9999));
        due("none", x.back(0), 0);
        due("first of none", x.back(1), NONE);
        due("in all of none", x.back(2), 0);
        yes("none told", x.tell(0, 0, NONE));
        due("again", x.back(0), 1);
        x.line(0, 1);
        x.line(1, 2);
        x.line(0, 2);
        x.line(2, 3);
        due("all sets", x.back(0), 16);
        due("in all", x.back(2), 0);
        x.tell(1, 1, 24);
        due("three lines there", x.back(0), 2);
        due("first", x.back(1), 14);
        due("in all", x.back(2), 14);
        x.tell(0, 0, 8);
        due("just", x.back(0), 1);
        x.tell(0, 0, 16);
        due("first", x.back(1), 15);
        x.tell(0, 0, 0);
        due("0 is told", x.back(0), 0);
        x.shade(0, 5);
        x.tell(0, 0, 16);
        due("with a shade of 1", x.back(0), 1);
        due("what", x.back(3), -2);
        due("what", x.back(-1), -2);
        x = grid(4, 24);
        x.winding(0, 0);
        for (int i = 1; i <= 12; i++) x.line(0, i);
        due("12 lines", x.back(0), 4096);
        x.tell(0, 0, 8);
        x.tell(3, 0, 8);
        due("by 0 to 4, or by 0 to 9", x.back(0), 2);
        due("first", x.back(1), 8);
        due("in both", x.back(2), 0);
        due("what can be undone stays", x.look(4), 1);
        x.line(0, 13);
        for (int w = 0; w < 3; w++) due("13 lines", x.back(w), -2);
    }

    private static void like() {
        part = "26 like";
        OneThread x = corners(2);
        due("of several the least", x.like(), 0);
        x.winding(0, 0);
        x.winding(0, 1);
        x.want(3, 0, 0, 8);
        due("nearest", x.like(), 3);
        x.want(2, 1, 0, 8);
        due("of two", x.like(), 2);
        x.want(3, 1, 0, 7);
        due("nearer", x.like(), 3);
    }

    private static void rule() {
        part = "27 rule, 28 drawn";
        OneThread x = new OneThread();
        due("no pins", x.rule(1, 1, 0), NONE);
        due("no pins", x.drawn(1, 1, 0, 0), NONE);
        x.pin(0, 0);
        due("one pin", x.rule(2, 1, 0), 0);
        due("one pin", x.rule(2, 1, 1), 1);
        due("one pin", x.drawn(2, 1, 0, 0), 0);
        x = corners(2);
        due("round", x.rule(1, 1, 0), 4);
        due("round", x.rule(1, 1, 1), 1);
        due("across, each once", x.rule(1, 2, 0), 2);
        due("across", x.rule(1, 2, 1), 1);
        due("doubles", x.rule(2, 0, 0), 3);
        due("doubles", x.rule(2, 0, 1), 4);
        due("the other way", x.rule(3, 0, 0), 1);
        due("the other way", x.rule(3, 0, 1), 2);
        due("none", x.rule(1, 4, 0), 0);
        due("none", x.rule(1, 4, 1), 1);
        due("to one", x.rule(0, 1, 0), 3);
        due("99", x.rule(99, 99, 0), x.rule(3, 3, 0));
        due("across there", x.drawn(1, 2, 0, 0), 8);
        due("round there", x.drawn(1, 1, 1, 0), 16);
        due("doubles there", x.drawn(2, 0, 1, 1), 24);
        x.shade(0, 7);
        due("with a shade of 1", x.drawn(1, 2, 0, 1), 8);
        int[][] bad = {{-1, 0}, {100, 0}, {0, -1}, {0, 100}};
        for (int[] b : bad) {
            due("rule", x.rule(b[0], b[1], 0), NONE);
            due("drawn", x.drawn(b[0], b[1], 0, 0), NONE);
        }
        due("what", x.rule(1, 1, 2), NONE);
        due("what", x.rule(1, 1, -1), NONE);
        due("no square", x.drawn(1, 1, 2, 0), NONE);
        due("no square", x.drawn(1, 1, 0, -1), NONE);
    }

    private static void undo() {
        part = "29 undo";
        OneThread x = corners(2);
        no("nothing", x.undo());
        x.winding(0, 0);
        x.winding(1, 1);
        x.winding(0, 2);
        x.winding(0, 2);
        due("three", x.look(4), 3);
        yes("the latest", x.undo());
        due("gone", x.wound(0, NONE), 1);
        due("not dark", x.dark(0, 0), 0);
        yes("that ahead", x.undo());
        due("gone", x.wound(1, NONE), 0);
        x.winding(2, 3);
        yes("the new one", x.undo());
        due("gone", x.wound(2, NONE), 0);
        yes("the first", x.undo());
        no("nothing", x.undo());
        for (int i = 0; i < 50; i++) x.winding(i % 2, (i / 2) % 2);
        due("40 are kept", x.look(4), 40);
        for (int i = 0; i < 40; i++) yes("undo", x.undo());
        no("the 41st", x.undo());
        due("left", x.wound(0, NONE), 5);
        due("left", x.wound(1, NONE), 5);
        due("dark", x.dark(0, 0), 4 * 8 + 4 * 16);
    }

    private static void image() {
        part = "30 image";
        OneThread x = corners(3);
        no("none", x.image(false));
        law(x, "bar when to=3;");
        x.winding(0, 0);
        x.winding(0, 1);
        x.want(1, 0, 0, 50);
        x.weight(0, 0, 2);
        x.shade(1, 6);
        x.line(0, 2);
        x.tell(2, 2, 7);
        x.winding(0, 2);
        int far = x.far(1);
        yes("taken", x.image(true));
        due("what can be undone stays, when it is taken", x.look(4), 1);
        for (int round = 0; round < 2; round++) {
            x.board(5);
            x.pin(5, 5);
            x.pin(0, 5);
            x.winding(0, 1);
            x.winding(0, 0);
            law(x, "may;may");
            x.end(0);
            x.feed(0x20202020, 0x20202020, 0x20202020, 0x20202020, 0x20202020);
            yes("gone back", x.image(false));
            due("S", x.look(0), 3);
            due("pins", x.look(1), 4);
            due("set", x.look(2), 1);
            due("law", x.look(3), 1);
            due("nothing to undo", x.look(4), 0);
            due("length", x.look(5), 6);
            due("shade", x.look(11), 6);
            due("where pin 2 is", x.look(22), 33);
            due("far", x.far(1), far);
            due("dark", x.dark(2, 0), 16);
            due("told", x.back(0), 0);
            due("the law", x.winding(0, 3), -2);
            due("used", x.winding(0, 1), 4);
            due("fault is not of it", x.fault(0), 1);
            due("nor the tape", x.feed(0, 0, 0, 0, 0), 40);
            x.end(0);
        }
        x.clear();
        yes("taken anew", x.image(true));
        x.line(0, 1);
        x.line(0, 3);
        yes("gone back", x.image(false));
        due("set", x.look(2), 0);
        due("what was wound ere it was taken", x.wound(0, NONE), 4);
    }

    private static void look() {
        part = "31 look";
        OneThread x = grid(8, 24);
        due("S", x.look(0), 8);
        due("pins", x.look(1), 24);
        due("pin 0", x.look(20), 0);
        due("pin 8", x.look(28), 8);
        due("pin 9", x.look(29), 10);
        due("pin 23", x.look(43), 25);
        due("pin 24", x.look(44), NONE);
        x.winding(0, 0);
        due("no length", x.look(5), 0);
        x.winding(0, 22);
        x.winding(1, 1);
        x.winding(1, 3);
        x.winding(1, 2);
        due("length of all", x.look(5), 4 + 2 + 1);
        for (int what : new int[] {-1, 6, 9, 13, 19, 44, Integer.MAX_VALUE, Integer.MIN_VALUE}) due("look " + what, x.look(what), NONE);
        due("21 with one pin alone", new OneThread().look(21), NONE);
    }
}
