import java.util.ArrayDeque;
import java.util.ArrayList;
import java.util.Deque;
import java.util.List;
import java.util.Map;

/** THE LAW told a second time, in another way: an automaton for the FAULT, splitting of texts for the value. */
final class LawModel {
    private static final String NAMES = "tkswnb";

    private LawModel() {
    }

    /** -1: it is a TEXT; else the FAULT. */
    static int fault(int[] bytes) {
        Deque<Character> open = new ArrayDeque<>();
        Deque<Boolean> compared = new ArrayDeque<>();
        compared.push(false);
        boolean wantsOperand = true;
        boolean asked = false;
        int digits = 0;
        for (int i = 0; i < bytes.length; i++) {
            char c = (char) bytes[i];
            if (wantsOperand) {
                if (c >= '0' && c <= '9') {
                    digits = 1;
                    wantsOperand = false;
                } else if (NAMES.indexOf(c) >= 0) {
                    digits = 4;
                    wantsOperand = false;
                } else if ((c == '(' || c == '!' || c == '-') && open.size() < 6) {
                    open.push(c);
                    if (c == '(') {
                        compared.push(false);
                    }
                    continue;
                } else {
                    return i;
                }
                closeSigns(open);
                continue;
            }
            if (c >= '0' && c <= '9') {
                if (digits >= 4) {
                    return i;
                }
                digits++;
                continue;
            }
            digits = 4;
            if (c == ')') {
                if (open.isEmpty()) {
                    return i;
                }
                open.pop();
                compared.pop();
                closeSigns(open);
            } else if (c == '<' || c == '=' || c == '>') {
                if (compared.peek()) {
                    return i;
                }
                compared.pop();
                compared.push(true);
                wantsOperand = true;
            } else if (c == '|' || c == '&') {
                compared.pop();
                compared.push(false);
                wantsOperand = true;
            } else if ("+-*/%".indexOf(c) >= 0) {
                wantsOperand = true;
            } else if (c == '?' && open.isEmpty() && !asked) {
                asked = true;
                compared.pop();
                compared.push(false);
                wantsOperand = true;
            } else if (c == ';' && open.isEmpty()) {
                asked = false;
                compared.pop();
                compared.push(false);
                wantsOperand = true;
            } else {
                return i;
            }
        }
        return wantsOperand || !open.isEmpty() ? bytes.length : -1;
    }

    private static void closeSigns(Deque<Character> open) {
        while (!open.isEmpty() && open.peek() != '(') {
            open.pop();
        }
    }

    static int value(String text, Map<Character, Integer> names) {
        for (String line : text.split(";")) {
            String[] parts = line.split("\\?");
            if (parts.length == 1) {
                return expression(parts[0], names);
            }
            if (expression(parts[0], names) != 0) {
                return expression(parts[1], names);
            }
        }
        return 0;
    }

    private static int expression(String e, Map<Character, Integer> names) {
        for (String signs : List.of("|", "&", "<=>", "+-", "*/%")) {
            int at = lastOf(e, signs);
            if (at >= 0) {
                int left = expression(e.substring(0, at), names);
                int right = expression(e.substring(at + 1), names);
                return joined(e.charAt(at), left, right);
            }
        }
        char first = e.charAt(0);
        if (first == '!') {
            return expression(e.substring(1), names) == 0 ? 1 : 0;
        }
        if (first == '-') {
            return -expression(e.substring(1), names);
        }
        if (first == '(') {
            return expression(e.substring(1, e.length() - 1), names);
        }
        return names.containsKey(first) ? names.get(first) : Integer.parseInt(e);
    }

    /** The last sign of these outside all brackets that stands between two operands. */
    private static int lastOf(String e, String signs) {
        List<Integer> found = new ArrayList<>();
        int depth = 0;
        for (int i = 0; i < e.length(); i++) {
            char c = e.charAt(i);
            depth += c == '(' ? 1 : c == ')' ? -1 : 0;
            boolean isBetween = i > 0 && (Character.isLetterOrDigit(e.charAt(i - 1)) || e.charAt(i - 1) == ')');
            if (depth == 0 && isBetween && signs.indexOf(c) >= 0) {
                found.add(i);
            }
        }
        return found.isEmpty() ? -1 : found.get(found.size() - 1);
    }

    private static int joined(char sign, int left, int right) {
        return switch (sign) {
            case '|' -> (left | right) != 0 ? 1 : 0;
            case '&' -> left == 0 ? 0 : right == 0 ? 0 : 1;
            case '<' -> Integer.compare(left, right) < 0 ? 1 : 0;
            case '=' -> Integer.compare(left, right) == 0 ? 1 : 0;
            case '>' -> Integer.compare(left, right) > 0 ? 1 : 0;
            case '+' -> (int) ((long) left + right);
            case '-' -> (int) ((long) left - right);
            case '*' -> (int) ((long) left * right);
            case '/' -> right == 0 ? 0 : (int) ((long) left / right);
            default -> right == 0 ? 0 : (int) ((long) left % right);
        };
    }
}
