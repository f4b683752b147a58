import java.util.ArrayDeque;
import java.util.ArrayList;
import java.util.List;
import java.util.Map;
import java.util.regex.Matcher;
import java.util.regex.Pattern;

/**
 * A text for Model: no descent, but one walk from token to token that knows what may stand next, and
 * the worth of an E by splitting it at its loosest sign.
 */
final class ModelText {
    private static final Pattern TOKEN = Pattern.compile("[a-z]+|[0-9]+|[^ \n]");

    final List<List<String>> lines = new ArrayList<>();
    int fault = 0;

    /** What may stand next. */
    private enum Due { VERDICT, WHEN, PART, BEHIND_PART }

    ModelText(String signs) {
        Due due = Due.VERDICT;
        // One entry for each E that is open: whether its last TEST has its < or = already.
        ArrayDeque<Boolean> open = new ArrayDeque<>();
        List<String> line = new ArrayList<>();
        Matcher matcher = TOKEN.matcher(signs);
        while (matcher.find()) {
            String token = matcher.group();
            int kind = 0;
            switch (due) {
                case VERDICT:
                    kind = !token.equals("keep") && !token.equals("lapse") ? 1 : lines.size() == 16 ? 5 : 0;
                    due = Due.WHEN;
                    break;
                case WHEN:
                    kind = token.equals("when") ? 0 : 1;
                    open.push(false);
                    due = Due.PART;
                    break;
                case PART:
                    kind = !isPart(token) ? 1 : open.size() > 5 ? 5 : 0;
                    if (token.equals("(")) {
                        open.push(false);
                    } else {
                        due = Due.BEHIND_PART;
                    }
                    break;
                default:
                    due = Due.PART;
                    if (token.equals("and")) {
                        open.pop();
                        open.push(false);
                    } else if (token.equals("<") || token.equals("=")) {
                        kind = open.pop() ? 1 : 0;
                        open.push(true);
                    } else if (token.equals(")")) {
                        open.pop();
                        kind = open.isEmpty() ? 1 : 0;
                        due = Due.BEHIND_PART;
                    } else if (token.equals(";")) {
                        open.pop();
                        kind = open.isEmpty() ? 0 : 1;
                        due = Due.VERDICT;
                    } else if (!token.equals("+") && !token.equals("-")) {
                        kind = 1;
                    }
            }
            if (kind != 0) {
                fault = kind + 16 * matcher.start();
                return;
            }
            line.add(token);
            if (due == Due.VERDICT) {
                lines.add(line);
                line = new ArrayList<>();
            }
        }
        if (due != Due.VERDICT) {
            fault = 1 + 16 * signs.length();
        }
    }

    private static boolean isPart(String token) {
        return token.matches("[0-9]{1,4}|missed|held|sick|rank|area|year|[(]");
    }

    /** The worth of an E that has no fault. */
    static int worth(List<String> e, Map<String, Integer> facts) {
        int at = lastOutside(e, "and");
        if (at >= 0) {
            boolean left = worth(e.subList(0, at), facts) != 0;
            return left && worth(e.subList(at + 1, e.size()), facts) != 0 ? 1 : 0;
        }
        at = lastOutside(e, "<=");
        if (at < 0) {
            at = lastOutside(e, "+-");
        }
        if (at >= 0) {
            int left = worth(e.subList(0, at), facts);
            int right = worth(e.subList(at + 1, e.size()), facts);
            switch (e.get(at)) {
                case "<":
                    return left < right ? 1 : 0;
                case "=":
                    return left == right ? 1 : 0;
                case "+":
                    return left + right;
                default:
                    return left - right;
            }
        }
        if (e.get(0).equals("(")) {
            return worth(e.subList(1, e.size() - 1), facts);
        }
        Integer fact = facts.get(e.get(0));
        return fact != null ? fact : Integer.parseInt(e.get(0));
    }

    private static int lastOutside(List<String> e, String signs) {
        int depth = 0;
        for (int n = e.size() - 1; n >= 0; n--) {
            String token = e.get(n);
            depth += token.equals(")") ? 1 : token.equals("(") ? -1 : 0;
            boolean wanted = signs.equals("and") ? token.equals("and") : token.length() == 1 && signs.contains(token);
            if (depth == 0 && wanted) {
                return n;
            }
        }
        return -1;
    }
}
