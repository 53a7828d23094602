import java.util.ArrayList;
import java.util.List;
import java.util.regex.Matcher;
import java.util.regex.Pattern;

/** The text of a PROGRAM once more, by patterns. */
final class ModelProgram {
    static final class Line {
        final char sign;
        int gives = -1;
        int stored = -1;
        int second = -1;
        int third = -1;
        int base = -1;
        int size;
        int number;

        Line(String text) {
            sign = text.charAt(0);
            String[] parts = text.split(",");
            int first = parts[0].charAt(parts[0].length() - 1) - '0';
            if (sign == 'S') {
                stored = first;
            } else {
                gives = first;
            }
            if (sign == '#') {
                number = Integer.parseInt(parts[1]);
            } else if (sign == 'L' || sign == 'S') {
                size = text.charAt(1) == 'b' ? 1 : text.charAt(1) == 'h' ? 2 : 4;
                String place = parts[1];
                if (place.startsWith("r")) {
                    base = place.charAt(1) - '0';
                    place = place.substring(3);
                }
                number = Integer.parseInt(place);
            } else {
                second = Integer.parseInt(parts[1]);
                third = Integer.parseInt(parts[2]);
            }
        }

        int kind() {
            return sign == '#' ? 0 : sign == 'L' ? 2 : sign == 'S' ? 3 : 1;
        }

        List<Integer> reads() {
            List<Integer> all = new ArrayList<>(List.of(stored, second, third, base));
            all.removeIf(r -> r < 0);
            return all;
        }

        int reckon(int a, int b) {
            switch (sign) {
                case '+': return a + b;
                case '-': return a - b;
                case '*': return a * b;
                case '&': return a & b;
                case '^': return a ^ b;
                case '>': return a > b ? 1 : 0;
                default: return number;
            }
        }
    }

    private static final String PLACE = "(r[0-7]\\+)?[0-9]+";
    private static final String OP = "(#[0-7],[0-9]+|[-+*&^>][0-7],[0-7],[0-7]|[LS][bhw][0-7]," + PLACE + ")";
    private static final Pattern LOOSE = Pattern.compile(OP + "(;" + OP + ")*");
    private static final Pattern FIVE = Pattern.compile("[0-9]{5}");
    private static final Pattern MANY = Pattern.compile("([^;]*;){20}");

    final List<Line> lines = new ArrayList<>();

    ModelProgram(String text) {
        if (!text.isEmpty()) {
            for (String line : text.split(";")) {
                lines.add(new Line(line));
            }
        }
    }

    static int low(int value, int size) {
        return size == 1 ? value & 0xff : size == 2 ? value & 0xffff : value;
    }

    /** What program() answers to a text. */
    static int answer(String text) {
        int bad = firstBad(text);
        Matcher five = FIVE.matcher(text);
        int digit = five.find() ? five.end() - 1 : Integer.MAX_VALUE;
        Matcher many = MANY.matcher(text);
        int op = many.lookingAt() ? many.end() : Integer.MAX_VALUE;
        if (bad <= digit && bad <= op && bad != Integer.MAX_VALUE) {
            return -1000 - bad;
        }
        if (digit < op) {
            return -2000 - digit;
        }
        return op == Integer.MAX_VALUE ? text.split(";").length : -4000 - op;
    }

    /** The first place behind which no text could make a program of what is ahead. */
    private static int firstBad(String text) {
        for (int n = 1; n <= text.length(); n++) {
            Matcher matcher = LOOSE.matcher(text.substring(0, n));
            if (!matcher.matches() && !matcher.hitEnd()) {
                return n - 1;
            }
        }
        return LOOSE.matcher(text).matches() ? Integer.MAX_VALUE : text.length();
    }
}
