import java.util.Random;

/** Makes texts of TREATIES by chance: most are right, some have a byte or a TOKEN that is not. */
final class TextMaker {
    private static final String[] TOKENS = {"we", "they", "yield", "from", "until", "if", "and", "band", "hour", "day", "land",
        "aim", "power", "since", "notice", ";", "+", "-", "*", "==", "!=", "<", "<=", "(", ")", "0", "12", "3599", "99999",
        "=", "!", "#", "word", "longwords", "eightlet"};

    private final Random random;
    private final StringBuilder out = new StringBuilder();

    TextMaker(Random random) {
        this.random = random;
    }

    String make() {
        int kind = random.nextInt(12);
        if (kind == 0) {
            soup();
        } else {
            int rules = kind == 1 ? 15 + random.nextInt(8) : random.nextInt(4);
            for (int r = 0; r < rules; r++) {
                rule(kind == 2 ? 30 : kind == 1 ? 1 : 3);
            }
        }
        if (random.nextInt(4) == 0) {
            spoil();
        }
        return out.length() > 1900 ? out.substring(0, 1900) : out.toString();
    }

    private void put(String token) {
        boolean glue = out.length() == 0 || random.nextInt(3) == 0 && !sticks(out.charAt(out.length() - 1), token.charAt(0));
        if (!glue) {
            out.append("\t\n\r     ".charAt(random.nextInt(8)));
        }
        out.append(token);
    }

    private static boolean sticks(char a, char b) {
        return Character.isLetter(a) && Character.isLetter(b) || Character.isDigit(a) && Character.isDigit(b) || a == '<' && b == '=';
    }

    private void rule(int rels) {
        put(random.nextBoolean() ? "we" : "they");
        put("yield");
        int from = random.nextInt(300);
        if (random.nextInt(4) == 0) {
            put("from");
            put("" + from);
        } else {
            from = 0;
        }
        if (random.nextInt(4) == 0) {
            put("until");
            put("" + (from + random.nextInt(random.nextInt(8) == 0 ? 2 : 200)));
        }
        int count = random.nextInt(rels + 1);
        for (int k = 0; k < count; k++) {
            put(k == 0 ? "if" : "and");
            sum(0);
            put(new String[] {"==", "!=", "<", "<=", "!=", "<="}[random.nextInt(6)]);
            sum(0);
        }
        put(";");
    }

    private void sum(int depth) {
        part(depth);
        while (random.nextInt(3) == 0) {
            put(random.nextBoolean() ? "+" : "-");
            part(depth);
        }
    }

    private void part(int depth) {
        unit(depth);
        while (random.nextInt(5) == 0) {
            put("*");
            unit(depth);
        }
    }

    private void unit(int depth) {
        int luck = random.nextInt(8);
        if (luck == 0 && depth < 8 || depth > 0 && depth < 7 && random.nextInt(3) == 0) {
            put("(");
            sum(depth + 1);
            put(")");
        } else if (luck < 4) {
            put("" + (random.nextInt(3) == 0 ? random.nextInt(10000) : random.nextInt(12)));
        } else {
            put(TOKENS[7 + random.nextInt(8)]);
        }
    }

    private void soup() {
        int count = random.nextInt(12);
        for (int k = 0; k < count; k++) {
            put(TOKENS[random.nextInt(TOKENS.length)]);
        }
    }

    private void spoil() {
        if (out.length() == 0) {
            return;
        }
        int at = random.nextInt(out.length());
        switch (random.nextInt(4)) {
            case 0 -> out.deleteCharAt(at);
            case 1 -> out.insert(at, TOKENS[random.nextInt(TOKENS.length)]);
            case 2 -> out.setCharAt(at, (char) random.nextInt(256));
            default -> out.setLength(at);
        }
    }
}
