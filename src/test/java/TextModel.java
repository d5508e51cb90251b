import java.util.ArrayList;
import java.util.List;

/** A text of TREATIES, read by going down its grammar; the FAULT is thrown. */
final class TextModel {
    interface Value {
        int of(int[] vars);
    }

    record Rel(String sign, Value left, Value right) {
        boolean holds(int[] vars) {
            int a = left.of(vars);
            int b = right.of(vars);
            return switch (sign) {
                case "==" -> a == b;
                case "!=" -> a != b;
                case "<" -> a < b;
                default -> a <= b;
            };
        }
    }

    static final class Rule {
        boolean they;
        int from = 0;
        int until = Integer.MAX_VALUE;
        final List<Rel> rels = new ArrayList<>();

        boolean decides(int day, int[] vars) {
            boolean holds = from <= day && day < until;
            for (Rel rel : rels) {
                holds = holds && rel.holds(vars);
            }
            return holds;
        }
    }

    private static final class Fault extends RuntimeException {
        private static final long serialVersionUID = 1;
        final int number;

        Fault(int number) {
            this.number = number;
        }
    }

    private static final List<String> VARS = List.of("band", "hour", "day", "land", "aim", "power", "since", "notice");

    final List<Rule> rules = new ArrayList<>();
    int fault = 0;
    int place = -1;

    private final List<String> tokens = new ArrayList<>();
    private final List<Integer> places = new ArrayList<>();
    private int at = 0;
    private int wrong = -1;

    TextModel(List<Integer> bytes) {
        StringBuilder text = new StringBuilder();
        for (int b : bytes) {
            text.append((char) b);
        }
        cut(text.toString());
        try {
            while (!peek().equals("END")) {
                rules.add(rule());
            }
            if (wrong >= 0) {
                fault = 5;
                place = wrong;
            }
        } catch (Fault f) {
            fault = f.number;
            place = places.get(at);
        }
    }

    /** What is no TOKEN becomes "BAD", the end "END"; neither is a WORD, for they are not small letters. */
    private void cut(String text) {
        int i = 0;
        while (i < text.length()) {
            if ("\t\n\r ".indexOf(text.charAt(i)) >= 0) {
                i++;
                continue;
            }
            int j = i;
            while (j < text.length() && text.charAt(j) >= 'a' && text.charAt(j) <= 'z') {
                j++;
            }
            boolean bad = j - i > 8;
            if (j == i) {
                while (j < text.length() && text.charAt(j) >= '0' && text.charAt(j) <= '9') {
                    j++;
                }
                bad = j - i > 4;
            }
            if (j == i) {
                String two = text.substring(i, Math.min(i + 2, text.length()));
                j = List.of("==", "!=", "<=").contains(two) ? i + 2 : i + 1;
                bad = j == i + 1 && ";+-*<()".indexOf(text.charAt(i)) < 0;
            }
            tokens.add(bad ? "BAD" : text.substring(i, j));
            places.add(i);
            i = j;
        }
        tokens.add("END");
        places.add(text.length());
    }

    private String peek() {
        return tokens.get(at);
    }

    private boolean isInt() {
        return Character.isDigit(peek().charAt(0));
    }

    private String take(boolean right) {
        if (!right) {
            throw new Fault(1);
        }
        if (at == 400) {
            throw new Fault(2);
        }
        return tokens.get(at++);
    }

    private String take(String token) {
        return take(peek().equals(token));
    }

    private Rule rule() {
        Rule rule = new Rule();
        boolean starts = peek().equals("we") || peek().equals("they");
        if (starts && rules.size() == 20) {
            throw new Fault(2);
        }
        rule.they = take(starts).equals("they");
        take("yield");
        if (peek().equals("from")) {
            take("from");
            rule.from = Integer.parseInt(take(isInt()));
        }
        if (peek().equals("until")) {
            take("until");
            int where = places.get(at);
            rule.until = Integer.parseInt(take(isInt()));
            wrong = wrong < 0 && rule.until <= rule.from ? where : wrong;
        }
        if (peek().equals("if")) {
            do {
                take(true);
                rule.rels.add(rel());
            } while (peek().equals("and"));
        }
        take(";");
        return rule;
    }

    private Rel rel() {
        Value left = sum(0);
        String sign = take(List.of("==", "!=", "<", "<=").contains(peek()));
        return new Rel(sign, left, sum(0));
    }

    private Value sum(int depth) {
        Value value = part(depth);
        while (peek().equals("+") || peek().equals("-")) {
            boolean plus = take(true).equals("+");
            Value a = value;
            Value b = part(depth);
            value = plus ? v -> a.of(v) + b.of(v) : v -> a.of(v) - b.of(v);
        }
        return value;
    }

    private Value part(int depth) {
        Value value = unit(depth);
        while (peek().equals("*")) {
            take(true);
            Value a = value;
            Value b = unit(depth);
            value = v -> a.of(v) * b.of(v);
        }
        return value;
    }

    private Value unit(int depth) {
        if (peek().equals("(")) {
            if (depth == 6) {
                throw new Fault(2);
            }
            take("(");
            Value value = sum(depth + 1);
            take(")");
            return value;
        }
        if (isInt()) {
            int number = Integer.parseInt(take(true));
            return v -> number;
        }
        int var = VARS.indexOf(peek());
        take(var >= 0);
        return v -> v[var];
    }
}
