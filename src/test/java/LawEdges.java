import java.util.ArrayList;
import java.util.Arrays;
import java.util.List;

/** Terms, part 2: the text of THE LAW, its faults, and where a thread may go by it. */
final class LawEdges {
    private static final int NONE = Edge.NONE;
    private static final String[] KEYWORDS = {
        "may", "bar", "when", "or", "and", "not", "from", "to", "length", "used", "thread", "wound", "turn", "shade",
    };
    private static final String FACTS = "from to length used thread wound turn shade";
    private static final String EIGHT = "((((((((";
    private static final String SIXTEEN = "may;bar;may;bar;may;bar;may;bar;may;bar;may;bar;may;bar;may;bar;";

    private LawEdges() {
    }

    static void all() {
        lines();
        ors();
        ands();
        clauses();
        sums();
        products();
        operands();
        keywords();
        numbers();
        signs();
        blanks();
        wraps();
        firstByPlace();
        misplaced();
        byZero();
        tooMany();
        mayGo();
        facts();
    }

    private static void fine(String text, int lines) {
        OneThread x = new OneThread();
        Edge.due("lines of " + text, Edge.law(x, text), lines);
        Edge.due("fault of " + text, x.fault(0), 0);
        Edge.due("place in " + text, x.fault(1), NONE);
    }

    private static void fault(String text, int kind, int place) {
        OneThread x = new OneThread();
        Edge.due("text of " + text, Edge.law(x, text), NONE);
        Edge.due("fault of " + text, x.fault(0), kind);
        Edge.due("place in " + text, x.fault(1), place);
    }

    /** Whether a clause is so, asked of thread 1 with pins 2, 0 wound, from 0 to 3. */
    private static void so(String clause, boolean want) {
        OneThread x = Edge.pins(4, 0, 1, 2, 43);
        Edge.wind(x, 1, 2, 0);
        Edge.due("lines", Edge.law(x, "may when " + clause + ";bar;"), 2);
        Edge.due("goes when " + clause, x.winding(1, 3), want ? 3 : -2);
    }

    /** Behind a text just these words can stand, of all words and some that are none. */
    private static void follow(String text, String allowed) {
        List<String> tries = new ArrayList<>(Arrays.asList(KEYWORDS));
        tries.addAll(Arrays.asList("0", "7", "9999", ";", "+", "-", "*", "/", "(", ")", "<", "=", ">"));
        tries.addAll(Arrays.asList("10000", "x", "maybar", "May", ".", ",", "!", "<=", "\u00df"));
        List<String> can = Arrays.asList(allowed.split(" "));
        for (String word : tries) {
            OneThread x = new OneThread();
            Edge.law(x, text + " " + word);
            boolean stands = can.contains(word) || word.equals("<=") && can.contains("<");
            boolean refused = x.fault(0) == 1 && x.fault(1) == text.length() + 1;
            Edge.due(word + " behind " + text, refused ? 0 : 1, stands ? 1 : 0);
        }
    }

    private static void lines() {
        Edge.says("THE LAW is a TEXT (empty at first) = {(may | bar) [when B] ;}.");
        OneThread x = Edge.pins(4, 0, 1);
        Edge.due("lines at first", x.look(3), 0);
        Edge.wind(x, 0, 0);
        Edge.due("the empty law bars nothing", x.winding(0, 1), 2);
        fine("", 0);
        fine("may;", 1);
        fine("bar;", 1);
        fine("may when 1=1;", 1);
        fine("bar when 1=1;may;", 2);
        follow("", "may bar");
        follow("may", "when ;");
        follow("bar", "when ;");
        follow("may;", "may bar");
        follow("bar when to=1;", "may bar");
    }

    private static void ors() {
        Edge.says("B = A {or A}.");
        follow("may when to=1 or", "not ( 0 7 9999 " + FACTS);
        so("1=2 or 1=1", true);
        so("1=1 or 1=2", true);
        so("1=2 or 1=2", false);
        so("1=2 or 1=2 or 1=2 or 1=1", true);
        so("1=1 or 1=1 and 1=2", true);
        so("1=2 and 1=1 or 1=1", true);
        for (int chain = 0; chain < 128; chain++) joined(chain);
    }

    /** Four clauses, so or not, and three joints, each and or or: so if all between two ors are. */
    private static void joined(int chain) {
        StringBuilder text = new StringBuilder();
        boolean any = false;
        boolean all = true;
        for (int i = 0; i < 4; i++) {
            boolean or = i > 0 && (chain >> 3 + i & 1) == 1;
            boolean clause = (chain >> i & 1) == 1;
            if (i > 0) text.append(or ? " or " : " and ");
            text.append(clause ? "1=1" : "1=2");
            any |= or && all;
            all = clause && (or || all);
        }
        so(text.toString(), any || all);
    }

    private static void ands() {
        Edge.says("A = C {and C}.");
        follow("may when to=1 and", "not ( 0 7 9999 " + FACTS);
        so("1=1 and 1=1", true);
        so("1=1 and 1=2", false);
        so("1=2 and 1=1", false);
        so("1=1 and 1=1 and 1=1 and 1=2", false);
        so("1=1 and (1=2 or 1=1)", true);
    }

    private static void clauses() {
        Edge.says("C = E (< | = | >) E | not C | ( B ).");
        follow("may when", "not ( 0 7 9999 " + FACTS);
        follow("may when not", "not ( 0 7 9999 " + FACTS);
        follow("may when (", "not ( 0 7 9999 " + FACTS);
        follow("may when to=", "0 7 9999 " + FACTS);
        follow("may when to<", "0 7 9999 " + FACTS);
        follow("may when to>", "0 7 9999 " + FACTS);
        follow("may when to=1", "+ - * / and or ;");
        follow("may when not to=1", "+ - * / and or ;");
        follow("may when (to=1", "+ - * / and or )");
        follow("may when (to=1)", "and or ;");
        follow("may when not (to=1)", "and or ;");
        follow("may when ((to=1)", "and or )");
        String[] below = {"0<1", "1>0", "1=1", "not 1=0", "not 1<1", "not 1>1", "(1=1)", "not (1=0)", "not not 1=1"};
        for (String clause : below) so(clause, true);
        String[] not = {"1<0", "0>1", "1=0", "1<1", "1>1", "not 1=1", "(1=0)", "not not 1=0", "not (1=1)"};
        for (String clause : not) so(clause, false);
        so("not 1=2 and 1=2", false);
        so("not 1=1 or 1=1", true);
        // a clause is so or not, whichever sign made it
        for (String one : new String[] {"0<1", "1=1", "1>0"}) {
            so("not " + one, false);
            so("not not " + one, true);
            for (String two : new String[] {"0<1", "1=1", "1>0"}) so(one + " and " + two, true);
            for (String two : new String[] {"1<0", "1=0", "0>1"}) {
                so(one + " and " + two, false);
                so(two + " or " + one, true);
                so("not (" + one + " and " + two + ")", true);
                so("not (" + two + " or " + one + ")", false);
            }
        }
    }

    private static void sums() {
        Edge.says("E = T {(+ | -) T}.");
        follow("may when to", "+ - * / < = > <=");
        follow("may when to+", "0 7 9999 " + FACTS);
        follow("may when to-", "0 7 9999 " + FACTS);
        follow("may when to=1+", "0 7 9999 " + FACTS);
        so("9-4-3=2", true);
        so("9-4+3=8", true);
        so("1+2*3=7", true);
        so("2*3+1=7", true);
        so("9-8/2=5", true);
        so("1-2<0", true);
        so("0=1-1", true);
        so("0-1=1-2", true);
    }

    private static void products() {
        Edge.says("T = U {* U | / NUMBER}.");
        follow("may when to*", "0 7 9999 " + FACTS);
        // 0 stands there, though it is a fault of its own
        follow("may when to/", "0 7 9999");
        follow("may when to/2", "+ - * / < = > <=");
        follow("may when to=1/", "0 7 9999");
        so("7/2*2=6", true);
        so("7*2/2=7", true);
        so("7/2/2=1", true);
        so("0/9999=0", true);
        so("9999/9999=1", true);
        so("9998/9999=0", true);
        so("0*9999=0", true);
    }

    private static void operands() {
        Edge.says("U = NUMBER | from | to | length | used | thread | wound | turn | shade.");
        String[] values = {"from=0", "to=3", "length=4", "used=0", "thread=1", "wound=2", "turn=0", "shade=2"};
        for (String value : values) {
            so(value, true);
            so("not " + value, false);
            so(value.replace("=", ">"), false);
            so(value.replace("=", "<"), false);
        }
        so("from+to+length+used+thread+wound+turn+shade=12", true);
        so("0<1", true);
    }

    private static void keywords() {
        Edge.says("TOKENS: letters as many as stand together are KEYWORDS (those told here) or none;");
        for (String word : KEYWORDS) {
            String[] round = placeOf(word);
            int place = round[0].length();
            fine(round[0] + word + round[1], 1);
            fault(round[0] + word + "s" + round[1], 1, place);
            fault(round[0] + "s" + word + round[1], 1, place);
            fault(round[0] + word.substring(1) + round[1], 1, place);
            fault(round[0] + word.substring(0, word.length() - 1) + round[1], 1, place);
            fault(round[0] + word + word + round[1], 1, place);
            fault(round[0] + word.toUpperCase() + round[1], 1, place);
            fault(round[0] + word.substring(0, 1).toUpperCase() + word.substring(1) + round[1], 1, place);
        }
        fault("maywhen to=1;", 1, 0);
        fault("may whento=1;", 1, 4);
        fault("may when notto=1;", 1, 9);
        fault("may when to=1 orto=2;", 1, 14);
        fault("ma y;", 1, 0);
        fine("may when(to=1)and(to=1)or not(to=1);", 1);
        fine("may when to=1or to=2and 1=1;", 1);
    }

    /** What stands ahead of a keyword and behind it in a law that is without fault. */
    private static String[] placeOf(String word) {
        switch (word) {
            case "may":
            case "bar": return new String[] {"", ";"};
            case "when": return new String[] {"may ", " to=1;"};
            case "or":
            case "and": return new String[] {"may when to=1 ", " to=2;"};
            case "not": return new String[] {"may when ", " to=1;"};
            default: return new String[] {"may when ", "=1;"};
        }
    }

    private static void numbers() {
        Edge.says("digits as many as stand together NUMBERS of 1 to 4 digits or none;");
        for (String number : new String[] {"0", "9", "00", "10", "99", "000", "999", "0000", "0001", "9999"}) {
            fine("may when to=" + number + ";", 1);
        }
        for (String none : new String[] {"00000", "00001", "10000", "99999", "123456789", "4294967296", "00000000000000000000"}) {
            fault("may when to=" + none + ";", 1, 12);
            fault("may when " + none + "=to;", 1, 9);
        }
        fault("may when to=1 2;", 1, 14);
        fault("may when to=1234 5;", 1, 17);
        fault("may when 1to=1;", 1, 10);
        fault("may when to1=1;", 1, 11);
        so("0003=to", true);
        so("0010=10", true);
        so("9999+1=9999/9999+9999", true);
        so("9999>9998", true);
    }

    private static void signs() {
        Edge.says("; + - * / ( ) < = > .");
        for (char sign : ";+-*/()<=>".toCharArray()) fault("may when to" + sign + sign + "1=1;;", 1, ";()".indexOf(sign) >= 0 ? 11 : 12);
        fault("may when to<=1;", 1, 12);
        fault("may when to=>1;", 1, 12);
        fault("may.", 1, 3);
        fault("may when to=1.", 1, 13);
        fine("may when to+1-1*1/1<1 and(to=1)and to>1;", 1);
    }

    private static void blanks() {
        Edge.says("Blanks (32, 10) between.");
        for (int sign = 0; sign < 256; sign++) {
            String one = String.valueOf((char) sign);
            boolean letter = sign < 128 && Character.isLetter(sign);
            if (sign == 32 || sign == 10) {
                fine(one, 0);
                fine("may" + one + ";", 1);
                fine(one + "may;" + one + "bar;" + one, 2);
                fault("m" + one + "ay;", 1, 0);
            } else {
                fault(one, 1, 0);
                fault("may" + one + ";", 1, letter ? 0 : sign == ';' ? 4 : 3);
                fault("may;" + one + "bar;", 1, 4);
            }
        }
        fine("  \n \n\n may \n when\nto = 1 \n; \n", 1);
        fault("may  ", 1, 5);
        fault("\n may", 1, 5);
    }

    private static void wraps() {
        Edge.says("Ints, which wrap; / goes towards 0.");
        String most = "2147*1000*1000+4836*100+47";
        so(most + ">0", true);
        so(most + "+1<0", true);
        so(most + "+1=1024*1024*2048", true);
        so("0-" + most.replace('+', '-') + "-1=1024*1024*2048", true);
        so("0-" + most.replace('+', '-') + "-2=" + most, true);
        so("1024*1024*2048<0", true);
        so("1024*1024*2048-1=" + most, true);
        so("1024*1024*4096=0", true);
        so("1024*1024*4096+1=1", true);
        so("9999*9999*43=4172*1000+747", true);
        so("9999*9999*21+9999*9999<0", true);
        so("0-9999*9999*21-9999*9999>0", true);
        // 9999 * 9999 * 22 wraps to -2095407274, a third of which lies between -698469092 and -698469091
        so("9999*9999*22/3=0-6984*1000*100-6909*10-1", true);
        so("9999*9999*22/3=0-6984*1000*100-6909*10-2", false);
        so("1024*1024*2048/1=1024*1024*2048", true);
        so("1024*1024*2048/2=0-1024*1024*1024", true);
        so("1024*1024*2048/9999=0-214*1000-769", true);
        so("7/2=3", true);
        so("1/2=0", true);
    }

    private static void firstByPlace() {
        Edge.says("FAULTS, the first by its place, at one place the least:");
        fault("may when to/0=1;;", 2, 12);
        fault(";may when to/0=1;", 1, 0);
        fault("may when to/0=1;may when to/0=1;;", 2, 12);
        fault("may when " + EIGHT + "(to/0=1;", 3, 17);
        fault("may when to/0=1 and " + EIGHT + "(", 2, 12);
        fault("may when " + EIGHT + "to/0=1 and (", 2, 20);
        fault(SIXTEEN + "may when to/0=1;", 3, 64);
        fault(SIXTEEN.substring(4) + "may when to/0=1;may;", 2, 72);
        // the ninth that is open, but it can't stand there
        fault("may when " + EIGHT + "to(", 1, 19);
        fault("may when " + EIGHT + "to=not", 1, 20);
        // the keyword of a 17th line, but ahead of the end of the 16th
        fault(SIXTEEN.substring(4) + "may may;", 1, 64);
        fault(SIXTEEN + "when", 1, 64);
        // by 0, but no number
        fault("may when to/00000=1;", 1, 12);
    }

    private static void misplaced() {
        Edge.says("1 what can't stand there (the end: the text's length).");
        String[] law = {
            "may", " when", " not", " (", "from", "<", "12", "+", "length", "*", "3", "/", "4", " or", " not", " to", "=", "used",
            ")", " and", " wound", "-", "1", ">", "turn", ";", "bar", " when", " thread", "=", "shade", ";",
        };
        String text = "";
        for (String word : law) {
            text += word;
            if (text.endsWith(";")) {
                fine(text, text.length() < 70 ? 1 : 2);
            } else {
                fault(text, 1, text.length());
                fault(text + " \n ", 1, text.length() + 3);
            }
        }
        fault("may", 1, 3);
        fault("x", 1, 0);
        fault(" ".repeat(397) + "may", 1, 400);
        fault(" ".repeat(396) + "may.", 1, 399);
        fine(" ".repeat(396) + "may;", 1);
        fault(" ".repeat(399) + "m", 1, 399);
        fault(";".repeat(400), 1, 0);
        fault("may;" + "+".repeat(396), 1, 4);
        fault("m".repeat(400), 1, 0);
        fault("may when to=" + "1".repeat(388), 1, 12);
        fault("may when 1" + "+1".repeat(195), 1, 400);
        fault("may when " + "(".repeat(391), 3, 17);
        fine(" ".repeat(400), 0);
        fault("may when to=1);", 1, 13);
        fault("may when (to=1;", 1, 14);
        fault("may when ();", 1, 10);
        fault("may when (to)=1;", 1, 12);
        fault("may when to=(1);", 1, 12);
        fault("may when to=1=1;", 1, 13);
        fault("may when 1;", 1, 10);
        fault("may when;", 1, 8);
    }

    private static void byZero() {
        Edge.says("2 (at the NUMBER) a part by 0.");
        for (String zero : new String[] {"0", "00", "000", "0000"}) fault("may when to/" + zero + "=1;", 2, 12);
        for (String one : new String[] {"1", "01", "0001", "9999"}) fine("may when to/" + one + "=1;", 1);
        fault("may when to/ \n0=1;", 2, 14);
        fault("may when to=1/0;", 2, 14);
        fault("may when to=4/2/0;", 2, 16);
        fault("may when to/0", 2, 12);
        fault("may when to/0 0", 2, 12);
        fine("may when to*0=0;", 1);
        fine("may when 0/1=0;", 1);
        fault("may when 0/0=0;", 2, 11);
    }

    private static void tooMany() {
        Edge.says("3 (at its KEYWORD) the 17th line; (at it) the 9th ( or not that is open.");
        fine(SIXTEEN, 16);
        fine(SIXTEEN + " \n", 16);
        fault(SIXTEEN + "may;", 3, 64);
        fault(SIXTEEN + " \n bar when to=1;", 3, 67);
        fault(SIXTEEN + "may", 3, 64);
        fault(SIXTEEN + ";", 1, 64);
        fine("may when " + EIGHT + "to=1" + EIGHT.replace('(', ')') + ";", 1);
        fault("may when " + EIGHT + "(to=1)" + EIGHT.replace('(', ')') + ";", 3, 17);
        fault("may when " + EIGHT + "not to=1" + EIGHT.replace('(', ')') + ";", 3, 17);
        String nots = "not not not not not not not not ";
        fine("may when " + nots + "to=1;", 1);
        fault("may when " + nots + "not to=1;", 3, 41);
        fault("may when " + nots + "(to=1);", 3, 41);
        fine("may when " + nots + "to=1 and " + nots + "to=1 or " + nots + "to=1;", 1);
        fine("may when " + EIGHT + "to=1)and(to=1)or(to=1)))))))) and (((((((to=1)))))));", 1);
        fault("may when " + EIGHT + "to=1)and(to=1)or((to=1)))))))));", 3, 34);
        fault("may when not(not(not(not(to=1 or(", 3, 32);
        fine("may when not(not(not(not(to=1)or not to=1)));", 1);
        fine("may when not(not(not(not(to=1))) or not not not not not not to=1);", 1);
        fault("may when not(not(not(not(to=1))) or not not not not not not not to=1);", 3, 60);
        fine("bar when " + EIGHT + "to=1))))))));bar when " + EIGHT + "to=1))))))));", 2);
        deepest();
    }

    /** All that can wait at once: an or and an and at each of nine levels, and a sum with a product. */
    private static void deepest() {
        String open = "1=2 or 1=1 and (".repeat(8);
        String close = "))))))))";
        so(open + "1=2 or 1=1 and 2<1+1*2" + close, true);
        so(open + "1=2 or 1=1 and 3<1+1*2" + close, false);
        so("not(not(not(not(1=2 or 1=1 and 1=1))))", true);
        so("not(not(not(not(1=2 or 1=1 and 1=2))))", false);
        so("1" + "+1".repeat(150) + "=151", true);
        so("1" + "*2".repeat(31) + "=1024*1024*2048", true);
        so("1=2" + " or 1=2".repeat(40) + " or 1=1", true);
    }

    private static void mayGo() {
        Edge.says("A THREAD may go on to a PIN (not that where it is; with an empty WINDING to any, THE LAW not asked) by the "
            + "first line whose B is so, or that has none (may: yes; bar: no); yes without one:");
        OneThread x = Edge.pins(4, 0, 1, 2, 3);
        Edge.law(x, "bar;");
        Edge.due("an empty winding", x.winding(0, 3), 1);
        Edge.due("where it is", x.winding(0, 3), NONE);
        Edge.due("another", x.winding(0, 2), -2);
        Edge.law(x, "may;");
        Edge.due("where it is", x.winding(0, 3), NONE);
        Edge.due("another", x.winding(0, 2), 2);
        x.rub(0, 2);
        Edge.law(x, "bar when from=0 or to=0 or wound=0;");
        Edge.due("an empty winding again", x.winding(0, 0), 1);
        Edge.law(x, "bar when to=1;may when to<3;bar;");
        Edge.due("the first line", x.winding(0, 1), -2);
        Edge.due("the second", x.winding(0, 2), 2);
        Edge.due("the third, which has none", x.winding(0, 3), -2);
        Edge.law(x, "may when to=1;may;bar;");
        Edge.due("a line that has none ends it", x.winding(0, 3), 3);
        Edge.law(x, "bar when to=1;may when to=0;");
        Edge.due("yes without one", x.winding(0, 2), 4);
        Edge.law(x, "bar when to=9;".repeat(15) + "bar;");
        Edge.due("the 16th line", x.winding(0, 1), -2);
        Edge.law(x, "bar when to=9;".repeat(16));
        Edge.due("none of sixteen", x.winding(0, 1), 5);
    }

    private static void facts() {
        Edge.says("from: PIN where it is; to; length; used: how often that LINE is in all WINDINGS (either way); thread; wound: "
            + "PINS in its WINDING; turn: 1, if it would go back to the PIN ahead of from, else 0; shade.");
        OneThread x = Edge.grid(8, 23);
        x.pin(8, 8);
        Edge.wind(x, 2, 23);
        Edge.law(x, "may when from=23 and to=0 and length=8 and used=0 and thread=2 and wound=1 and turn=0 and shade=3;bar;");
        Edge.due("as they are", x.winding(2, 0), 2);
        Edge.law(x, "may when from=0 and to=23 and length=8 and used=1 and thread=2 and wound=2 and turn=1 and shade=3;bar;");
        Edge.due("the other way", x.winding(2, 23), 3);
        x.shade(2, 9);
        Edge.law(x, "may when from=23 and to=22 and length=6 and used=0 and thread=2 and wound=3 and turn=0 and shade=9;bar;");
        Edge.due("another", x.winding(2, 22), 4);
        Edge.wind(x, 0, 5);
        x.shade(0, 0);
        Edge.law(x, "may when from=5 and to=6 and length=1 and used=0 and thread=0 and wound=1 and turn=0 and shade=0;bar;");
        Edge.due("the least of each", x.winding(0, 6), 2);
        Edge.law(x, "bar when turn=1;");
        Edge.due("two pins ahead of from is no turn", x.winding(2, 0), 5);
        Edge.due("a turn", x.winding(2, 22), -2);
        mostOfFacts();
    }

    private static void mostOfFacts() {
        OneThread x = Edge.pins(2, 0, 1);
        for (int t = 0; t < 3; t++) for (int i = 0; i < 120; i++) x.winding(t, i % 2);
        x.rub(2, 1);
        Edge.law(x, "bar when used=356 and wound=119 and turn=1;");
        Edge.due("used by all threads, wound 119", x.winding(2, 1), -2);
        Edge.law(x, "may when used=356 and wound=119 and turn=1;bar;");
        Edge.due("the 120th", x.winding(2, 1), 120);
        x.rub(1, 120);
        x.rub(0, 118);
        x.winding(1, 1);
        Edge.law(x, "may when used=120 and wound=1 and turn=0;bar;");
        Edge.due("rubbed lines are not used", x.winding(1, 0), 2);
        usedAfterAll();
    }

    /** How often a line is there does not change by a shade, and is 0 again on a new board. */
    private static void usedAfterAll() {
        OneThread x = Edge.pins(2, 0, 1);
        Edge.wind(x, 0, 0, 1, 0);
        x.image(true);
        Edge.law(x, "may when used=2;bar;");
        x.shade(0, 5);
        Edge.due("used twice, a shade told", x.winding(0, 1), 4);
        Edge.law(x, "may when used=3;bar;");
        x.winding(1, 1);
        Edge.due("used three times by another thread", x.winding(1, 0), 2);
        x.undo();
        Edge.due("undone: three times again", x.winding(1, 0), 2);
        x.image(false);
        Edge.law(x, "may when used=2;bar;");
        Edge.due("used twice in the image", x.winding(0, 1), 4);
        x.board(2);
        x.pin(0, 0);
        x.pin(1, 0);
        x.winding(0, 0);
        Edge.law(x, "may when used=0;bar;");
        Edge.due("not used on a new board", x.winding(0, 1), 2);
    }
}
