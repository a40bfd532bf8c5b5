import java.util.ArrayDeque;
import java.util.ArrayList;
import java.util.Deque;
import java.util.List;
import java.util.Map;
import java.util.Set;
import java.util.regex.Matcher;
import java.util.regex.Pattern;

/**
 * A second reading of TEXTS, written another way than the class's own (a stack of signs that wait
 * for their right side, no recursion), so that the two can be held against each other.
 */
final class PlainText {
    static final Set<String> NAMES = Set.of("port", "day", "ship", "here", "late", "stayed", "full",
            "kind", "room", "weight", "worth", "freight", "waits");
    private static final Map<String, Integer> BINDS = Map.of("(", 0, "or", 1, "and", 2, "not", 3,
            "<", 4, "=", 4, ">", 4, "+", 5, "-", 5, "*", 6);
    private static final int NEG_BINDS = 7;
    private static final Pattern TOKEN = Pattern.compile("[a-z]+|[0-9]+|[^ ]", Pattern.DOTALL);

    /** The place of the FAULT, or -1. */
    final int fault;
    private final List<String> postfix = new ArrayList<>();
    private final Deque<String> waiting = new ArrayDeque<>();

    PlainText(String text) {
        fault = read(text);
    }

    private int read(String text) {
        Matcher m = TOKEN.matcher(text);
        boolean behindOperand = false;
        while (m.find()) {
            String token = m.group();
            if (behindOperand) {
                if (token.equals(")")) {
                    popDownTo(1);
                    if (waiting.isEmpty()) {
                        return m.start();
                    }
                    waiting.pop();
                } else if (isBinary(token)) {
                    int binds = BINDS.get(token);
                    popDownTo(binds == 4 ? 5 : binds);
                    if (binds == 4 && !waiting.isEmpty() && binds(waiting.peek()) == 4) {
                        return m.start();
                    }
                    waiting.push(token);
                    behindOperand = false;
                } else {
                    return m.start();
                }
            } else if (NAMES.contains(token) || token.matches("[0-9]{1,5}")) {
                postfix.add(token);
                behindOperand = true;
            } else {
                boolean opens = token.equals("(") || token.equals("-") || token.equals("not") && notMayStand();
                if (!opens || openNow() == 12) {
                    return m.start();
                }
                waiting.push(token.equals("-") ? "neg" : token);
            }
        }
        if (!behindOperand || waiting.contains("(")) {
            return text.length();
        }
        popDownTo(1);
        return -1;
    }

    private static boolean isBinary(String token) {
        return BINDS.containsKey(token) && !token.equals("(") && !token.equals("not");
    }

    private static int binds(String waiting) {
        return waiting.equals("neg") ? NEG_BINDS : BINDS.get(waiting);
    }

    private boolean notMayStand() {
        return waiting.isEmpty() || binds(waiting.peek()) <= 3;
    }

    private int openNow() {
        int open = 0;
        for (String w : waiting) {
            // A neg whose operand has been read would have been popped by the sign behind it.
            if (w.equals("(") || w.equals("not") || w.equals("neg")) {
                open++;
            }
        }
        return open;
    }

    private void popDownTo(int binds) {
        while (!waiting.isEmpty() && binds(waiting.peek()) >= binds) {
            postfix.add("op " + waiting.pop());
        }
    }

    int value(Map<String, Integer> names) {
        Deque<Integer> stack = new ArrayDeque<>();
        for (String step : postfix) {
            if (!step.startsWith("op ")) {
                stack.push(Character.isDigit(step.charAt(0)) ? Integer.parseInt(step) : names.getOrDefault(step, 0));
                continue;
            }
            String op = step.substring(3);
            int right = stack.pop();
            if (op.equals("neg")) {
                stack.push(-right);
            } else if (op.equals("not")) {
                stack.push(right == 0 ? 1 : 0);
            } else {
                stack.push(apply(op, stack.pop(), right));
            }
        }
        return stack.pop();
    }

    private static int apply(String op, int left, int right) {
        return switch (op) {
            case "+" -> left + right;
            case "-" -> left - right;
            case "*" -> left * right;
            case "<" -> left < right ? 1 : 0;
            case "=" -> left == right ? 1 : 0;
            case ">" -> left > right ? 1 : 0;
            case "and" -> left != 0 & right != 0 ? 1 : 0;
            default -> left != 0 | right != 0 ? 1 : 0;
        };
    }
}
