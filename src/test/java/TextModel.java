import java.util.ArrayDeque;
import java.util.ArrayList;
import java.util.Deque;
import java.util.List;
import java.util.Map;
import java.util.Set;
import java.util.regex.Matcher;
import java.util.regex.Pattern;

/** Texts a second time: a machine of states for their faults, and lines cut apart at their signs for their rates. */
final class TextModel {
    private static final Pattern TOKEN = Pattern.compile("[a-z]+|[0-9]+|[^ \n]");
    private static final Set<String> FACTS = Set.of("kind", "thousands", "printed", "month", "weeks");

    private enum State { LINE, NUMBER, WHEN, PART, BEHIND }

    private TextModel() {
    }

    static int fault(String text) {
        State state = State.LINE;
        Deque<Boolean> compared = new ArrayDeque<>();
        int lines = 0;
        Matcher tokens = TOKEN.matcher(text);
        while (tokens.find()) {
            String token = tokens.group();
            int kind = 0;
            switch (state) {
                case LINE:
                    kind = !token.equals("rate") ? 1 : lines == 16 ? 5 : 0;
                    lines++;
                    state = State.NUMBER;
                    break;
                case NUMBER:
                    kind = !isNumber(token) ? 1 : Integer.parseInt(token) > 999 ? 4 : 0;
                    state = State.WHEN;
                    break;
                case WHEN:
                    kind = token.equals("when") ? 0 : 1;
                    compared.clear();
                    compared.push(false);
                    state = State.PART;
                    break;
                case PART:
                    boolean opens = token.equals("(");
                    kind = !opens && !isNumber(token) && !FACTS.contains(token) ? 1 : compared.size() > 5 ? 5 : 0;
                    if (opens) {
                        compared.push(false);
                    } else {
                        state = State.BEHIND;
                    }
                    break;
                default:
                    state = State.PART;
                    if (token.equals("and")) {
                        compared.pop();
                        compared.push(false);
                    } else if (token.equals("<") || token.equals("=")) {
                        kind = compared.pop() ? 1 : 0;
                        compared.push(true);
                    } else if (token.equals(")")) {
                        kind = compared.size() == 1 ? 1 : 0;
                        compared.pop();
                        state = State.BEHIND;
                    } else if (token.equals(";")) {
                        kind = compared.size() == 1 ? 0 : 1;
                        state = State.LINE;
                    } else if (!token.equals("+") && !token.equals("-")) {
                        kind = 1;
                    }
            }
            if (kind != 0) {
                return kind + 16 * tokens.start();
            }
        }
        return state == State.LINE ? 0 : 1 + 16 * text.length();
    }

    private static boolean isNumber(String token) {
        return token.matches("[0-9]{1,4}");
    }

    static int rate(String text, Map<String, Integer> facts) {
        List<String> line = new ArrayList<>();
        Matcher tokens = TOKEN.matcher(text);
        while (tokens.find()) {
            if (!tokens.group().equals(";")) {
                line.add(tokens.group());
                continue;
            }
            if (value(line.subList(3, line.size()), facts) != 0) {
                return Integer.parseInt(line.get(1));
            }
            line.clear();
        }
        return 0;
    }

    /** Cuts at the last sign of the loosest kind that stands within no brackets. */
    private static int value(List<String> e, Map<String, Integer> facts) {
        for (List<String> signs : List.of(List.of("and"), List.of("<", "="), List.of("+", "-"))) {
            int cut = lastOf(e, signs);
            if (cut >= 0) {
                int left = value(e.subList(0, cut), facts);
                int right = value(e.subList(cut + 1, e.size()), facts);
                switch (e.get(cut)) {
                    case "and": return left != 0 && right != 0 ? 1 : 0;
                    case "<": return left < right ? 1 : 0;
                    case "=": return left == right ? 1 : 0;
                    case "+": return left + right;
                    default: return left - right;
                }
            }
        }
        if (e.get(0).equals("(")) {
            return value(e.subList(1, e.size() - 1), facts);
        }
        return facts.containsKey(e.get(0)) ? facts.get(e.get(0)) : Integer.parseInt(e.get(0));
    }

    private static int lastOf(List<String> e, List<String> signs) {
        int within = 0;
        for (int i = e.size() - 1; i >= 0; i--) {
            String token = e.get(i);
            within += token.equals(")") ? 1 : token.equals("(") ? -1 : 0;
            if (within == 0 && signs.contains(token)) {
                return i;
            }
        }
        return -1;
    }
}
