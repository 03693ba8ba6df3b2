import java.util.ArrayDeque;
import java.util.ArrayList;
import java.util.HashMap;
import java.util.List;
import java.util.Map;

/**
 * Reads a TEXT from left to right, token by token, with two stacks and without a grammar that calls itself,
 * and works out what its three parts come to.
 */
final class ModelText {
    private static final List<String> NAMES = List.of("wet", "dry", "near", "old", "day", "salt");
    private static final List<String> PARTS = List.of("soak", "leak", "dries");
    private static final Map<String, Integer> RANK = Map.of("or", 1, "and", 2, "not", 3, "<", 4, "=", 4,
        "+", 5, "-", 5, "*", 6, "neg", 7);

    private record Token(String word, int place, boolean bad) { }

    final int[] values = new int[3];
    int fault = -1;

    private final ArrayDeque<String> waiting = new ArrayDeque<>();
    private final ArrayDeque<Integer> operands = new ArrayDeque<>();
    private final int[] names;
    private boolean wantsOne, notMayStand;
    private final ArrayDeque<Boolean> compared = new ArrayDeque<>();
    private int part, step;

    ModelText(String text, int[] names) {
        this.names = names;
        for (Token t : tokens(text)) {
            if (t.bad || !takes(t.word)) {
                fault = t.place;
                return;
            }
        }
        if (part < 3) fault = text.length();
    }

    private static final Map<String, List<Token>> READ = new HashMap<>();

    private static List<Token> tokens(String text) {
        return READ.computeIfAbsent(text, ModelText::split);
    }

    private static List<Token> split(String text) {
        List<Token> found = new ArrayList<>();
        int at = 0;
        while (at < text.length()) {
            char c = text.charAt(at);
            int from = at;
            at++;
            if (c == 32 || c == 10) continue;
            if (c >= 'a' && c <= 'z') while (at < text.length() && text.charAt(at) >= 'a' && text.charAt(at) <= 'z') at++;
            if (c >= '0' && c <= '9') while (at < text.length() && text.charAt(at) >= '0' && text.charAt(at) <= '9') at++;
            String word = text.substring(from, at);
            boolean letters = c >= 'a' && c <= 'z', digits = c >= '0' && c <= '9';
            boolean known = letters ? NAMES.contains(word) || PARTS.contains(word) || List.of("or", "and", "not").contains(word)
                : digits ? word.length() <= 4 : "();+-*<=".indexOf(c) >= 0;
            found.add(new Token(word, from, !known));
        }
        return found;
    }

    /** Whether the token can stand here. Steps of a part: its key, its E with the ; behind it. */
    private boolean takes(String word) {
        if (part == 3) return false;
        if (step == 0) {
            if (!word.equals(PARTS.get(part))) return false;
            step = 1;
            wantsOne = true;
            notMayStand = true;
            compared.push(false);
            return true;
        }
        return wantsOne ? takesAheadOfOne(word) : takesBehindOne(word);
    }

    private int open() {
        int n = 0;
        for (String w : waiting) if (w.equals("(") || w.equals("not") || w.equals("neg")) n++;
        return n;
    }

    private boolean takesAheadOfOne(String word) {
        if (word.equals("(") || word.equals("-") || word.equals("not")) {
            if (word.equals("not") && !notMayStand || open() == 5) return false;
            waiting.push(word.equals("-") ? "neg" : word);
            if (word.equals("(")) compared.push(false);
            notMayStand = !word.equals("-");
            return true;
        }
        boolean number = Character.isDigit(word.charAt(0));
        if (!number && !NAMES.contains(word)) return false;
        operands.push(number ? Integer.parseInt(word) : names[NAMES.indexOf(word)]);
        endOne();
        return true;
    }

    private void endOne() {
        wantsOne = false;
        while (!waiting.isEmpty() && waiting.peek().equals("neg")) work();
    }

    private boolean takesBehindOne(String word) {
        switch (word) {
            case ")":
                if (!waiting.contains("(")) return false;
                workDownTo(0);
                waiting.pop();
                compared.pop();
                endOne();
                return true;
            case ";":
                if (waiting.contains("(")) return false;
                workDownTo(0);
                compared.pop();
                values[part] = operands.pop();
                part++;
                step = 0;
                return true;
            case "<": case "=":
                if (compared.peek()) return false;
                compared.pop();
                compared.push(true);
                break;
            case "or": case "and":
                compared.pop();
                compared.push(false);
                break;
            case "+": case "-": case "*":
                break;
            default:
                return false;
        }
        workDownTo(RANK.get(word));
        waiting.push(word);
        wantsOne = true;
        notMayStand = word.equals("or") || word.equals("and");
        return true;
    }

    private void workDownTo(int rank) {
        while (!waiting.isEmpty() && !waiting.peek().equals("(") && RANK.get(waiting.peek()) >= rank) work();
    }

    private void work() {
        String by = waiting.pop();
        int right = operands.pop();
        if (by.equals("neg")) operands.push(-right);
        else if (by.equals("not")) operands.push(right == 0 ? 1 : 0);
        else {
            int left = operands.pop();
            operands.push(switch (by) {
                case "or" -> left != 0 || right != 0 ? 1 : 0;
                case "and" -> left != 0 && right != 0 ? 1 : 0;
                case "<" -> left < right ? 1 : 0;
                case "=" -> left == right ? 1 : 0;
                case "+" -> left + right;
                case "-" -> left - right;
                default -> left * right;
            });
        }
    }
}
