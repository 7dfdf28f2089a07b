import java.util.Random;

/** Texts of laws by the grammar, some of them spoilt, some of them heaps of tokens. */
final class LawTexts {
    private static final String[] WORDS = {"wet", "hour", "red", "grey", "chalk", "sand", "wing", "layers", "mass", "far",
        "steps"};
    private static final String[] SIGNS = {"<", "<=", ">", ">=", "=", "#"};
    private static final String[] TOKENS = {"take", "lose", "new", "falls", "or", "and", "not", "wet", "far", "mass", "12",
        "9999", "10000", "<", "<=", "=", "#", "+", "-", "*", "/", "(", ")", ";", "Take", "x", "!", "<>", "\t"};
    private final Random dice;
    private final StringBuilder text = new StringBuilder();

    LawTexts(Random dice) { this.dice = dice; }

    private int upTo(int most) { return dice.nextInt(most + 1); }

    private void add(String token) {
        boolean joins = text.length() > 0 && Character.isLetterOrDigit(text.charAt(text.length() - 1))
            && Character.isLetterOrDigit(token.charAt(0));
        if (joins || upTo(2) == 0) text.append(upTo(5) == 0 ? "\n" : " ");
        text.append(token);
    }

    String text() {
        if (upTo(9) == 0) heap(); else clauses();
        if (upTo(4) == 0) spoil();
        return text.toString();
    }

    private void heap() {
        int many = upTo(30);
        for (int i = 0; i < many; i++) add(TOKENS[upTo(TOKENS.length - 1)]);
    }

    private void clauses() {
        int many = upTo(12) == 0 ? 9 + upTo(3) : 1 + upTo(4);
        int seen = 0;
        for (int i = 0; i < many; i++) {
            int kind = upTo(3);
            if (kind < 2 && (seen & 1 << kind) != 0 && upTo(9) > 0) kind = 2;
            seen |= 1 << kind;
            add(TOKENS[kind]);
            if (many > 7) { if (kind < 2) add("7"); else small(); }
            else if (kind == 0) { if (upTo(1) == 0) { add("" + upTo(99)); add("-"); } sum(0); }
            else if (kind == 1) { add("" + upTo(40)); add("*"); sum(1); add("/"); add("" + upTo(300)); }
            else either();
            add(";");
        }
    }

    private void small() { add("wet"); add(SIGNS[upTo(5)]); add("3"); }

    private void either() {
        ask();
        while (upTo(2) == 0) { add(upTo(1) == 0 ? "or" : "and"); ask(); }
    }

    private void ask() {
        int nots = upTo(3) == 0 ? upTo(upTo(9) == 0 ? 9 : 2) : 0;
        for (int i = 0; i < nots; i++) add("not");
        sum(0);
        add(SIGNS[upTo(5)]);
        sum(0);
    }

    private void sum(int depth) {
        product(depth);
        while (upTo(3) == 0) { add(upTo(1) == 0 ? "+" : "-"); product(depth); }
    }

    private void product(int depth) {
        one(depth);
        while (upTo(3) == 0) { add(upTo(1) == 0 ? "*" : "/"); one(depth); }
    }

    private void one(int depth) {
        int kind = upTo(9);
        if (kind == 0 && depth < 12) { add("("); sum(depth + 1); add(")"); }
        else if (kind == 1 && depth < 12) { add("-"); one(depth + 1); }
        else if (kind == 2) {
            int many = upTo(12);
            for (int i = 0; i < many; i++) add("(");
            add("wet");
            for (int i = 0; i < many; i++) add(")");
        } else if (kind < 6) add("" + (upTo(3) == 0 ? upTo(10100) : upTo(20)));
        else add(WORDS[upTo(10)]);
    }

    private void spoil() {
        int at = upTo(text.length());
        if (upTo(2) == 0) text.setLength(at);
        else if (upTo(1) == 0) text.insert(at, TOKENS[upTo(TOKENS.length - 1)]);
        else if (at < text.length()) text.setCharAt(at, (char) upTo(255));
    }
}
