import java.util.ArrayDeque;
import java.util.ArrayList;
import java.util.Deque;
import java.util.List;
import java.util.Map;
import java.util.Set;

/**
 * THE LAW once more, otherwise than in the program: faults are found by a machine that knows at each
 * token what may stand there, and a law is asked by splitting its text at its lightest words.
 */
final class PlainLaw {
    private static final Set<String> FACTS =
        Set.of("from", "to", "length", "used", "thread", "wound", "turn", "shade");

    private PlainLaw() {
    }

    private record Token(String text, int place) {
        boolean isNumber() {
            return text.matches("[0-9]{1,4}");
        }
    }

    private static List<Token> tokens(String text) {
        List<Token> tokens = new ArrayList<>();
        java.util.regex.Matcher m = java.util.regex.Pattern.compile("[A-Za-z]+|[0-9]+|[^ \n]").matcher(text);
        while (m.find()) tokens.add(new Token(m.group(), m.start()));
        return tokens;
    }

    static int lines(String text) {
        int many = 0;
        for (Token t : tokens(text)) if (t.text.equals(";")) many++;
        return many;
    }

    /** What may come: a line, its when, a clause, an operand, a divisor, or what goes behind one. */
    private enum Due { LINE, WHEN, SEMICOLON, CLAUSE, OPERAND, DIVISOR, BEHIND_LEFT, BEHIND_RIGHT, BEHIND_CLAUSE }

    static int[] fault(String text) {
        Due due = Due.LINE;
        boolean right = false;
        int lines = 0;
        Deque<String> open = new ArrayDeque<>();
        List<Token> tokens = tokens(text);
        for (Token t : tokens) {
            int[] misplaced = {1, t.place};
            String s = t.text;
            // what a part that is whole closes is seen at the token behind it
            if (due == Due.BEHIND_RIGHT && !Set.of("+", "-", "*", "/").contains(s)) due = Due.BEHIND_CLAUSE;
            if (due == Due.BEHIND_CLAUSE) {
                while (!open.isEmpty() && open.peek().equals("not")) open.pop();
            }
            switch (due) {
                case LINE:
                    if (!s.equals("may") && !s.equals("bar")) return misplaced;
                    if (++lines == 17) return new int[] {3, t.place};
                    due = Due.WHEN;
                    break;
                case WHEN:
                    if (s.equals("when")) due = Due.CLAUSE;
                    else if (s.equals(";")) due = Due.LINE;
                    else return misplaced;
                    break;
                case CLAUSE:
                    if (s.equals("not") || s.equals("(")) {
                        if (open.size() == 8) return new int[] {3, t.place};
                        open.push(s);
                        break;
                    }
                    right = false;
                    if (!FACTS.contains(s) && !t.isNumber()) return misplaced;
                    due = Due.BEHIND_LEFT;
                    break;
                case OPERAND:
                    if (!FACTS.contains(s) && !t.isNumber()) return misplaced;
                    due = right ? Due.BEHIND_RIGHT : Due.BEHIND_LEFT;
                    break;
                case DIVISOR:
                    if (!t.isNumber()) return misplaced;
                    if (Integer.parseInt(s) == 0) return new int[] {2, t.place};
                    due = right ? Due.BEHIND_RIGHT : Due.BEHIND_LEFT;
                    break;
                case BEHIND_LEFT:
                case BEHIND_RIGHT:
                    if (s.equals("/")) {
                        due = Due.DIVISOR;
                    } else if (Set.of("+", "-", "*").contains(s)) {
                        due = Due.OPERAND;
                    } else if (!right && Set.of("<", "=", ">").contains(s)) {
                        right = true;
                        due = Due.OPERAND;
                    } else {
                        return misplaced;
                    }
                    break;
                default:
                    if (s.equals("and") || s.equals("or")) due = Due.CLAUSE;
                    else if (s.equals(")") && !open.isEmpty()) open.pop();
                    else if (s.equals(";") && open.isEmpty()) due = Due.LINE;
                    else return misplaced;
            }
        }
        return due == Due.LINE ? new int[] {0, -1} : new int[] {1, text.length()};
    }

    static boolean allows(String text, Map<String, Integer> facts) {
        List<String> line = new ArrayList<>();
        for (Token t : tokens(text)) {
            if (!t.text.equals(";")) {
                line.add(t.text);
                continue;
            }
            if (line.size() == 1 || holds(line.subList(2, line.size()), facts)) return line.get(0).equals("may");
            line.clear();
        }
        return true;
    }

    /** The place of the last of some words that stands in no bracket, or -1. */
    private static int lastOf(List<String> words, Set<String> which) {
        int depth = 0;
        for (int i = words.size() - 1; i >= 0; i--) {
            if (words.get(i).equals(")")) depth++;
            if (words.get(i).equals("(")) depth--;
            if (depth == 0 && which.contains(words.get(i))) return i;
        }
        return -1;
    }

    private static boolean holds(List<String> b, Map<String, Integer> facts) {
        int or = lastOf(b, Set.of("or"));
        if (or >= 0) return holds(b.subList(0, or), facts) | holds(b.subList(or + 1, b.size()), facts);
        int and = lastOf(b, Set.of("and"));
        if (and >= 0) return holds(b.subList(0, and), facts) & holds(b.subList(and + 1, b.size()), facts);
        if (b.get(0).equals("not")) return !holds(b.subList(1, b.size()), facts);
        if (b.get(0).equals("(")) return holds(b.subList(1, b.size() - 1), facts);
        int sign = lastOf(b, Set.of("<", "=", ">"));
        int left = value(b.subList(0, sign), facts);
        int right = value(b.subList(sign + 1, b.size()), facts);
        return b.get(sign).equals("<") ? left < right : b.get(sign).equals("=") ? left == right : left > right;
    }

    private static int value(List<String> e, Map<String, Integer> facts) {
        int at = lastOf(e, Set.of("+", "-"));
        if (at < 0) at = lastOf(e, Set.of("*", "/"));
        if (at < 0) return FACTS.contains(e.get(0)) ? facts.get(e.get(0)) : Integer.parseInt(e.get(0));
        int left = value(e.subList(0, at), facts);
        int right = value(e.subList(at + 1, e.size()), facts);
        switch (e.get(at)) {
            case "+": return left + right;
            case "-": return left - right;
            case "*": return left * right;
            default: return left / right;
        }
    }
}
