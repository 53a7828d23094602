import java.util.ArrayDeque;
import java.util.ArrayList;
import java.util.Deque;
import java.util.List;

/** THE LAW once more, written apart from the class: its text is split anew at each question. */
final class ModelLaw {
    static final class Refused extends RuntimeException {
        private static final long serialVersionUID = 1L;
    }

    static final String LETTERS = "ikcsnrw";
    final List<String> rules = new ArrayList<>();

    ModelLaw(String text) {
        if (!text.isEmpty()) {
            rules.addAll(split(text, ";"));
        }
    }

    int delay(int[] letters, boolean load) {
        for (String rule : rules) {
            int open = rule.charAt(0) == 'd' ? conditionAt(rule) : -1;
            if (open > 0 && holds(rule.substring(open), letters)) {
                int value;
                try {
                    value = sum(rule.substring(1, open), letters);
                } catch (Refused refused) {
                    value = 0;
                }
                return value < 1 ? 1 : value > 20 ? 20 : value;
            }
        }
        return load ? 2 : 1;
    }

    boolean holdsBack(int[] letters) {
        for (String rule : rules) {
            if (rule.charAt(0) == 'x' && holds(rule.substring(1), letters)) {
                return true;
            }
        }
        return false;
    }

    private static int conditionAt(String rule) {
        return rule.indexOf('(');
    }

    private static boolean holds(String condition, int[] letters) {
        try {
            return either(condition.substring(1, condition.length() - 1), letters);
        } catch (Refused refused) {
            return false;
        }
    }

    private static boolean either(String text, int[] letters) {
        for (String part : split(text, "|")) {
            boolean all = true;
            for (String test : split(part, "&")) {
                if (!test(test, letters)) {
                    all = false;
                    break;
                }
            }
            if (all) {
                return true;
            }
        }
        return false;
    }

    private static boolean test(String text, int[] letters) {
        if (text.startsWith("!")) {
            return !test(text.substring(1), letters);
        }
        if (text.startsWith("(")) {
            return either(text.substring(1, text.length() - 1), letters);
        }
        int at = lastOf(text, "<>=");
        int left = sum(text.substring(0, at), letters);
        int right = sum(text.substring(at + 1), letters);
        return text.charAt(at) == '<' ? left < right : text.charAt(at) == '>' ? left > right : left == right;
    }

    private static int sum(String text, int[] letters) {
        int at = lastOf(text, "+-");
        if (at < 0) {
            return product(text, letters);
        }
        int left = sum(text.substring(0, at), letters);
        int right = product(text.substring(at + 1), letters);
        return text.charAt(at) == '+' ? left + right : left - right;
    }

    private static int product(String text, int[] letters) {
        int at = lastOf(text, "*/%");
        if (at < 0) {
            return factor(text, letters);
        }
        int left = product(text.substring(0, at), letters);
        int right = factor(text.substring(at + 1), letters);
        if (text.charAt(at) == '*') {
            return left * right;
        }
        if (right == 0) {
            throw new Refused();
        }
        return text.charAt(at) == '/' ? left / right : left % right;
    }

    private static int factor(String text, int[] letters) {
        if (text.startsWith("[")) {
            return sum(text.substring(1, text.length() - 1), letters);
        }
        int letter = LETTERS.indexOf(text.charAt(0));
        return letter >= 0 ? letters[letter] : Integer.parseInt(text);
    }

    /** Where the last of the signs stands that is in no bracket; -1: nowhere. */
    private static int lastOf(String text, String signs) {
        int open = 0;
        for (int i = text.length() - 1; i >= 0; i--) {
            char sign = text.charAt(i);
            open += sign == ')' || sign == ']' ? 1 : sign == '(' || sign == '[' ? -1 : 0;
            if (open == 0 && signs.indexOf(sign) >= 0) {
                return i;
            }
        }
        return -1;
    }

    private static List<String> split(String text, String by) {
        List<String> parts = new ArrayList<>();
        int at = lastOf(text, by);
        String rest = text;
        while (at >= 0) {
            parts.add(0, rest.substring(at + 1));
            rest = rest.substring(0, at);
            at = lastOf(rest, by);
        }
        parts.add(0, rest);
        return parts;
    }

    /** What law() answers to a text: a machine with a stack reads it sign by sign. */
    static int answer(String text) {
        Scanner scanner = new Scanner();
        for (int i = 0; i < text.length(); i++) {
            int fault = scanner.take(text.charAt(i));
            if (fault != 0) {
                return -1000 * fault - i;
            }
        }
        return scanner.mayEnd() ? scanner.rules : -1000 - text.length();
    }

    private static final class Scanner {
        private static final int RULE = 0;
        private static final int TEST = 1;
        private static final int FACTOR = 2;
        private static final int BEHIND_FACTOR = 3;
        private static final int BEHIND_TEST = 4;
        private static final int BEHIND_RULE = 5;
        private static final int OPEN = 6;
        private final Deque<Character> open = new ArrayDeque<>();
        private boolean ahead;
        private boolean right;
        private int mode = RULE;
        private int digits;
        int rules;

        boolean mayEnd() {
            return mode == BEHIND_RULE;
        }

        int take(char sign) {
            switch (mode) {
                case RULE:
                    return takeRule(sign);
                case TEST:
                    if (sign == '!' || sign == '(') {
                        return push(sign, TEST);
                    }
                    right = false;
                    return takeFactor(sign);
                case FACTOR:
                    return takeFactor(sign);
                case BEHIND_FACTOR:
                    return takeBehindFactor(sign);
                case OPEN:
                    return sign == '(' ? push(sign, TEST) : 1;
                case BEHIND_TEST:
                    return takeBehindTest(sign);
                default:
                    mode = RULE;
                    return sign == ';' ? 0 : 1;
            }
        }

        private int takeRule(char sign) {
            if (sign != 'd' && sign != 'x') {
                return 1;
            }
            rules++;
            ahead = sign == 'd';
            mode = sign == 'd' ? FACTOR : OPEN;
            return rules > 16 ? 4 : 0;
        }

        private int push(char sign, int next) {
            ahead = ahead && sign == '[';
            open.push(sign);
            mode = next;
            return open.size() > 6 ? 5 : 0;
        }

        private int takeFactor(char sign) {
            if (sign == '[') {
                return push(sign, FACTOR);
            }
            mode = BEHIND_FACTOR;
            digits = Character.isDigit(sign) && sign < 128 ? 1 : 0;
            return digits == 1 || LETTERS.indexOf(sign) >= 0 ? 0 : 1;
        }

        private int takeBehindFactor(char sign) {
            if (digits > 0 && sign >= '0' && sign <= '9') {
                digits++;
                return digits > 5 ? 2 : 0;
            }
            digits = 0;
            if ("+-*/%".indexOf(sign) >= 0) {
                mode = FACTOR;
                return 0;
            }
            if (!open.isEmpty() && open.peek() == '[') {
                return sign == ']' ? closeBracket() : 1;
            }
            if (ahead) {
                return sign == '(' ? push(sign, TEST) : 1;
            }
            if (!right) {
                right = true;
                mode = FACTOR;
                return "<>=".indexOf(sign) >= 0 ? 0 : 1;
            }
            return takeBehindTest(sign);
        }

        private int closeBracket() {
            open.pop();
            return 0;
        }

        private int takeBehindTest(char sign) {
            while (!open.isEmpty() && open.peek() == '!') {
                open.pop();
            }
            if (sign == '&' || sign == '|') {
                mode = TEST;
                return 0;
            }
            if (sign != ')') {
                return 1;
            }
            open.pop();
            mode = open.isEmpty() ? BEHIND_RULE : BEHIND_TEST;
            return 0;
        }
    }
}
