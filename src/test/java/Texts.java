import java.util.Random;

/** Texts that are drawn: programs whose places meet often, laws, and spoilt ones. */
final class Texts {
    private final Random random;

    Texts(Random random) {
        this.random = random;
    }

    private char of(String signs) {
        return signs.charAt(random.nextInt(signs.length()));
    }

    private int upTo(int most) {
        return random.nextInt(most + 1);
    }

    String program() {
        int ops = random.nextInt(4) == 0 ? 20 : 1 + random.nextInt(20);
        int registers = 1 + random.nextInt(8);
        int places = 1 + random.nextInt(8);
        StringBuilder text = new StringBuilder(op(registers, places));
        for (int i = 1; i < ops; i++) {
            String next = op(registers, places);
            if (text.length() + next.length() < 240) {
                text.append(';').append(next);
            }
        }
        return text.toString();
    }

    private String op(int registers, int places) {
        int r = random.nextInt(registers);
        int s = random.nextInt(registers);
        int t = random.nextInt(registers);
        int kind = random.nextInt(10);
        if (kind == 0) {
            return "#" + r + "," + (random.nextInt(3) == 0 ? random.nextInt(10000) : random.nextInt(places + 2));
        }
        if (kind <= 3) {
            return "" + of("+-*&^>") + r + "," + s + "," + t;
        }
        int number = random.nextInt(4) == 0 ? random.nextInt(10000) : 60 + random.nextInt(places);
        return "" + of("LS") + of("bhw") + r + ","
            + (random.nextInt(3) == 0 ? "r" + s + "+" + (random.nextBoolean() ? 0 : number) : number);
    }

    String law() {
        int rules = random.nextInt(8) == 0 ? 16 : 1 + random.nextInt(4);
        StringBuilder text = new StringBuilder(rule());
        for (int i = 1; i < rules; i++) {
            String next = rule();
            if (text.length() + next.length() < 240) {
                text.append(';').append(next);
            }
        }
        return text.length() > 240 ? "d3(i=i)" : text.toString();
    }

    private String rule() {
        return (random.nextInt(3) == 0 ? "x" : "d" + sum(2)) + "(" + either(2) + ")";
    }

    private String either(int deep) {
        StringBuilder text = new StringBuilder(both(deep));
        for (int i = upTo(2); i > 1; i--) {
            text.append('|').append(both(deep));
        }
        return text.toString();
    }

    private String both(int deep) {
        StringBuilder text = new StringBuilder(test(deep));
        for (int i = upTo(2); i > 1; i--) {
            text.append('&').append(test(deep));
        }
        return text.toString();
    }

    private String test(int deep) {
        int kind = deep == 0 ? 9 : random.nextInt(8);
        if (kind == 0) {
            return "!" + test(deep - 1);
        }
        if (kind == 1) {
            return "(" + either(deep - 1) + ")";
        }
        return sum(deep - 1) + of("<>=") + sum(deep - 1);
    }

    private String sum(int deep) {
        StringBuilder text = new StringBuilder(product(deep));
        for (int i = upTo(3); i > 2; i--) {
            text.append(of("+-")).append(product(deep));
        }
        return text.toString();
    }

    private String product(int deep) {
        StringBuilder text = new StringBuilder(factor(deep));
        for (int i = upTo(3); i > 2; i--) {
            text.append(of("*/%")).append(factor(deep));
        }
        return text.toString();
    }

    private String factor(int deep) {
        int kind = deep <= 0 ? 1 + random.nextInt(7) : random.nextInt(8);
        if (kind == 0) {
            return "[" + sum(deep - 1) + "]";
        }
        if (kind < 4) {
            return "" + (random.nextInt(6) == 0 ? random.nextInt(100000) : random.nextInt(20));
        }
        return "" + of("ikcsnrw");
    }

    /** One sign is put in, taken out, or put in place of another, at times more often. */
    String spoilt(String text, String signs) {
        StringBuilder spoilt = new StringBuilder(text);
        for (int more = upTo(2); more >= 0 && spoilt.length() > 0; more--) {
            int at = random.nextInt(spoilt.length());
            char sign = random.nextInt(20) == 0 ? (char) random.nextInt(256) : of(signs);
            switch (random.nextInt(4)) {
                case 0:
                    spoilt.deleteCharAt(at);
                    break;
                case 1:
                    spoilt.insert(at, ("" + sign).repeat(1 + random.nextInt(7)));
                    break;
                case 2:
                    spoilt.setCharAt(at, sign);
                    break;
                default:
                    spoilt.setLength(at);
            }
        }
        return spoilt.length() == 0 || spoilt.length() > 240 ? "" + of(signs) : spoilt.toString();
    }
}
