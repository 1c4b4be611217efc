import java.util.ArrayDeque;
import java.util.ArrayList;
import java.util.Deque;
import java.util.List;
import java.util.Map;
import java.util.Set;
import java.util.regex.Matcher;
import java.util.regex.Pattern;

/** Laws, read by a pushdown machine for the fault and gone through token by token for what they tell. */
final class SlowLaw {
    private static final Pattern TOKEN = Pattern.compile("[a-z]+|[0-9]+|[^ ]", Pattern.DOTALL);
    private static final Set<String> WORDS = Set.of("day", "hand", "marks", "turn", "offset");

    private final List<String> tokens = new ArrayList<>();
    private int at;
    private Map<String, Integer> words;
    private boolean broken;

    SlowLaw(String text) {
        Matcher m = TOKEN.matcher(text);
        while (m.find()) {
            tokens.add(m.group());
        }
        tokens.add("");
    }

    private enum Want { CLAUSE, PART, OPERATOR, JOIN }

    static int faultOf(String text) {
        Want want = Want.CLAUSE;
        boolean inTest = false;
        boolean plainBegins = false;
        boolean compared = false;
        Deque<String> open = new ArrayDeque<>();
        int clauses = 0;
        int parts = 0;
        Matcher m = TOKEN.matcher(text);
        while (m.find()) {
            String t = m.group();
            boolean square = "[".equals(open.peek());
            if (want == Want.CLAUSE) {
                if (!t.equals("shows") || clauses == 12) {
                    return m.start();
                }
                clauses++;
                want = Want.PART;
                inTest = false;
                plainBegins = false;
            } else if (want == Want.PART) {
                boolean number = t.matches("[0-9]+");
                if (number || WORDS.contains(t)) {
                    if (parts == 50 || (number && new java.math.BigInteger(t).intValue() > 10000)
                            || t.replaceFirst("^0+", "").length() > 6) {
                        return m.start();
                    }
                    parts++;
                    want = Want.OPERATOR;
                    plainBegins = false;
                } else if (t.equals("[") && open.size() < 8) {
                    open.push(t);
                    plainBegins = false;
                } else if (t.equals("(") && plainBegins && open.size() < 8) {
                    open.push(t);
                } else if (!t.equals("not") || !plainBegins) {
                    return m.start();
                }
            } else if (want == Want.OPERATOR && "+-*/%".contains(t)) {
                want = Want.PART;
            } else if (want == Want.OPERATOR && square && t.equals("]")) {
                open.pop();
            } else if (square) {
                return m.start();
            } else if (want == Want.OPERATOR && inTest && !compared && "<>=".contains(t)) {
                compared = true;
                want = Want.PART;
            } else if (inTest && !compared) {
                return m.start();
            } else if (inTest && (t.equals("and") || t.equals("or")) || (!inTest && t.equals("if"))) {
                inTest = true;
                compared = false;
                plainBegins = true;
                want = Want.PART;
            } else if (inTest && t.equals(")") && !open.isEmpty()) {
                open.pop();
                want = Want.JOIN;
            } else if (t.equals(";") && open.isEmpty()) {
                want = Want.CLAUSE;
                compared = false;
            } else {
                return m.start();
            }
        }
        boolean whole = (want == Want.OPERATOR || want == Want.JOIN) && open.isEmpty() && (!inTest || compared);
        return whole ? -1 : text.length();
    }

    int tells(Map<String, Integer> asked) {
        words = asked;
        at = 0;
        int told = -2000000000;
        while (at < tokens.size() - 1) {
            broken = false;
            at++;
            long sum = sum(true);
            boolean so = true;
            if (tokens.get(at).equals("if")) {
                at++;
                so = test(true);
            }
            if (so && !broken) {
                told = (int) sum;
            }
            at++;
        }
        return told;
    }

    private boolean is(String t) {
        return tokens.get(at).equals(t);
    }

    private boolean test(boolean ask) {
        boolean so = both(ask);
        while (is("or")) {
            at++;
            boolean matters = ask && !so && !broken;
            boolean right = both(matters);
            so = matters ? right : so;
        }
        return so;
    }

    private boolean both(boolean ask) {
        boolean so = plain(ask);
        while (is("and")) {
            at++;
            boolean matters = ask && so && !broken;
            boolean right = plain(matters);
            so = matters ? right : so;
        }
        return so;
    }

    private boolean plain(boolean ask) {
        if (is("not")) {
            at++;
            return !plain(ask);
        }
        if (is("(")) {
            at++;
            boolean so = test(ask);
            at++;
            return so;
        }
        long left = sum(ask);
        String how = tokens.get(at++);
        long right = sum(ask);
        return how.equals("<") ? left < right : how.equals(">") ? left > right : left == right;
    }

    private long sum(boolean ask) {
        long sum = term(ask);
        while (is("+") || is("-")) {
            long sign = is("+") ? 1 : -1;
            at++;
            sum = bounded(sum + sign * term(ask), ask);
        }
        return sum;
    }

    private long term(boolean ask) {
        long product = part(ask);
        while (is("*") || is("/") || is("%")) {
            String how = tokens.get(at++);
            long by = part(ask);
            if (how.equals("*")) {
                product = bounded(product * by, ask);
            } else if (by == 0) {
                broken |= ask;
                product = 0;
            } else {
                long through = Math.abs(product) / Math.abs(by) * Long.signum(product) * Long.signum(by);
                product = how.equals("/") ? through : product - through * by;
            }
        }
        return product;
    }

    private long bounded(long n, boolean ask) {
        if (Math.abs(n) > 1000000000L) {
            broken |= ask;
            return 0;
        }
        return n;
    }

    private long part(boolean ask) {
        String t = tokens.get(at++);
        if (t.equals("[")) {
            long sum = sum(ask);
            at++;
            return sum;
        }
        return WORDS.contains(t) ? words.get(t) : Long.parseLong(t);
    }
}
