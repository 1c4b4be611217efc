import java.util.Random;

/** Random texts: most are laws, some are spoiled. */
final class RandomLaws {
    private static final String[] WORDS = {"day", "hand", "marks", "turn", "offset"};
    private static final String[] ODD = {"shows", "if", "or", "and", "not", "(", ")", "[", "]", "<", "=", ">", "+", "-",
        "*", "/", "%", ";", "day", "7", "10000", "10001", "99999999999", "0007", "x", "dayday", "A", "~", "\u00e9"};

    static String text(Random random) {
        StringBuilder out = new StringBuilder();
        int clauses = random.nextInt(30) == 0 ? 11 + random.nextInt(4) : 1 + random.nextInt(3);
        int size = clauses > 4 ? 0 : random.nextInt(3);
        for (int i = 0; i < clauses; i++) {
            out.append(i == 0 ? "" : ";").append("shows ");
            sum(random, out, size);
            if (random.nextInt(clauses > 4 ? 8 : 2) == 0) {
                out.append(" if ");
                test(random, out, size);
            }
        }
        String text = out.toString();
        if (random.nextInt(4) == 0) {
            text = spoiled(random, text);
        }
        return text.length() > 400 ? text.substring(0, 400) : text;
    }

    private static String spoiled(Random random, String text) {
        int at = random.nextInt(text.length() + 1);
        String odd = ODD[random.nextInt(ODD.length)];
        switch (random.nextInt(4)) {
            case 0:
                return text.substring(0, at);
            case 1:
                return text.substring(0, at) + odd + text.substring(at);
            case 2:
                return text.substring(0, at) + text.substring(Math.min(text.length(), at + 1 + random.nextInt(3)));
            default:
                return text.substring(0, at) + " " + odd + " " + text.substring(Math.min(text.length(), at + odd.length()));
        }
    }

    private static void blank(Random random, StringBuilder out) {
        if (random.nextInt(3) == 0) {
            out.append(' ');
        }
    }

    private static void sum(Random random, StringBuilder out, int size) {
        term(random, out, size);
        while (random.nextInt(4) < size) {
            blank(random, out);
            out.append(random.nextBoolean() ? '+' : '-');
            blank(random, out);
            term(random, out, size - 1);
        }
    }

    private static void term(Random random, StringBuilder out, int size) {
        part(random, out, size);
        while (random.nextInt(3) == 0) {
            out.append("*/%".charAt(random.nextInt(3)));
            blank(random, out);
            part(random, out, size - 1);
        }
    }

    private static void part(Random random, StringBuilder out, int size) {
        int kind = random.nextInt(5);
        if (kind == 0 && size > 0) {
            out.append('[');
            blank(random, out);
            sum(random, out, size - 1);
            out.append(']');
        } else if (kind < 3) {
            out.append(WORDS[random.nextInt(WORDS.length)]);
        } else {
            out.append(random.nextInt(8) == 0 ? random.nextInt(10001) : random.nextInt(9));
        }
    }

    private static void test(Random random, StringBuilder out, int size) {
        plain(random, out, size);
        while (random.nextInt(4) < size) {
            out.append(random.nextBoolean() ? " or " : " and ");
            plain(random, out, size - 1);
        }
    }

    private static void plain(Random random, StringBuilder out, int size) {
        while (random.nextInt(4) == 0) {
            out.append("not ");
        }
        if (random.nextInt(3) < size) {
            out.append('(');
            test(random, out, size - 1);
            out.append(')');
        } else {
            sum(random, out, size - 1);
            blank(random, out);
            out.append("<>=".charAt(random.nextInt(3)));
            sum(random, out, size - 1);
        }
    }
}
