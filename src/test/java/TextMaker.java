import java.util.Random;

/** Texts by chance: right ones by the grammar, and such with a token too many, too few or changed. */
final class TextMaker {
    private static final String[] ALL = {"hour", "wet", "wind"};
    private static final String[] OF_BEARS = {"thing", "weight", "sort", "pan", "weight"};
    private static final String[] OF_SAFE = {"left", "right", "moment", "turned", "turned"};
    private static final String[] RELATIONS = {"<", "<=", ">", ">=", "=", "#"};
    private static final String[] ODD = {
        "bears", "safe", "put", "take", "wait", "on", "or", "and", "not", "hour", "weight", "left", "turned", "pan",
        "Hour", "foo", "x", "0", "1", "2", "11", "12", "99", "100", "9999", "10000", "00001", "123456789012345678901",
        "<=", ">=", "<", ">", "=", "#", "+", "-", "*", "/", "(", ")", ";", "!", "\t", "\u00e9", "\u0000", "<>", "=="};
    private final Random random;

    TextMaker(Random random) {
        this.random = random;
    }

    private String any(String... words) {
        return words[random.nextInt(words.length)];
    }

    private boolean chance(int percent) {
        return random.nextInt(100) < percent;
    }

    private String number() {
        return String.valueOf(chance(70) ? random.nextInt(13) : chance(70) ? random.nextInt(500) : random.nextInt(10001));
    }

    private String one(boolean safe, int deep) {
        if (deep < 9 && chance(18)) return "( " + sum(safe, deep + 1) + " )";
        if (deep < 9 && chance(12)) return "- " + one(safe, deep + 1);
        if (chance(40)) return number();
        return chance(35) ? any(ALL) : any(safe ? OF_SAFE : OF_BEARS);
    }

    private String product(boolean safe, int deep) {
        String text = one(safe, deep);
        while (chance(25)) text += " " + any("*", "/") + " " + one(safe, deep);
        return text;
    }

    private String sum(boolean safe, int deep) {
        String text = product(safe, deep);
        while (chance(30)) text += " " + any("+", "-") + " " + product(safe, deep);
        return text;
    }

    private String ask(int deep) {
        if (deep < 9 && chance(20)) return "not " + ask(deep + 1);
        if (chance(50)) return any("turned", "left", "right", "left + right") + " < " + (50 + random.nextInt(3000));
        return sum(true, deep) + " " + any(RELATIONS) + " " + sum(true, deep);
    }

    private String either() {
        String text = ask(0);
        while (chance(35)) text += " " + any("and", "or", "or") + " " + ask(0);
        return text;
    }

    private String step() {
        if (chance(60)) return "put " + random.nextInt(chance(95) ? 6 : 13) + " on " + random.nextInt(chance(97) ? 2 : 3) + " ;";
        if (chance(60)) return "take " + random.nextInt(chance(95) ? 6 : 13) + " ;";
        return "wait " + random.nextInt(101) + " ;";
    }

    private String clauses() {
        StringBuilder text = new StringBuilder();
        int steps = chance(3) ? 26 : random.nextInt(6);
        boolean bears = chance(60);
        boolean safe = chance(60);
        if (bears) text.append("bears ").append(sum(false, 0)).append(" ; ");
        for (int i = 0; i < steps; i++) text.append(step()).append(' ');
        if (safe) text.append("safe ").append(either()).append(" ; ");
        if (chance(4)) text.append("bears ").append(sum(false, 0)).append(" ; ");
        if (chance(4)) text.append("safe ").append(either()).append(" ; ");
        return text.toString();
    }

    private String disturbed(String text) {
        String[] tokens = text.split(" ");
        int at = random.nextInt(tokens.length);
        int kind = random.nextInt(4);
        StringBuilder changed = new StringBuilder();
        for (int i = 0; i < tokens.length; i++) {
            if (i == at && kind == 3) break;
            if (i == at && kind == 0) changed.append(any(ODD)).append(' ');
            if (i == at && kind == 1) changed.append(any(ODD)).append(' ');
            if (i != at || kind > 1 || kind == 0) {
                if (i != at || kind != 2) changed.append(tokens[i]).append(' ');
            }
        }
        return changed.toString();
    }

    /** Blanks go where no two words or numbers meet, some of the time. */
    private String squeezed(String text) {
        StringBuilder out = new StringBuilder();
        for (int i = 0; i < text.length(); i++) {
            char c = text.charAt(i);
            if (c != ' ') out.append(c);
            else if (out.length() > 0 && i + 1 < text.length()
                && Character.isLetterOrDigit(out.charAt(out.length() - 1)) && Character.isLetterOrDigit(text.charAt(i + 1))) {
                out.append(chance(10) ? '\n' : ' ');
            } else if (chance(20)) out.append(' ');
        }
        return out.toString();
    }

    /** A law with some eight that are open around one another, and names of either law. */
    String makeDeep() {
        boolean safe = random.nextBoolean();
        StringBuilder text = new StringBuilder(safe ? "safe" : "bears");
        int nots = safe ? random.nextInt(6) : 0;
        for (int i = 0; i < nots; i++) text.append(" not");
        text.append(' ').append(nested(safe, nots, 7 + random.nextInt(3)));
        if (safe) text.append(" < ").append(nested(safe, nots, 7 + random.nextInt(3)));
        text.append(" ; ");
        return squeezed(chance(30) ? disturbed(text.toString()) : text.toString());
    }

    private String nested(boolean safe, int open, int most) {
        if (open >= most) return chance(90) ? any("1", "9999", "hour", safe ? "left" : "sort") : any(OF_SAFE[0], OF_BEARS[0], "hours");
        if (chance(50)) return "- " + nested(safe, open + 1, most);
        String inside = nested(safe, open + 1, most);
        if (chance(25)) inside = "2 + 3 * " + inside;
        if (chance(15)) inside += " - ( 1 )";
        return "( " + inside + " )";
    }

    String make() {
        String text = clauses();
        while (chance(30)) text = disturbed(text);
        if (chance(80)) text = squeezed(text);
        return text.length() > 300 ? text.substring(0, 300) : text;
    }
}
