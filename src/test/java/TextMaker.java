/** Makes texts: such as can be read, and such with a slip in them. */
final class TextMaker {
    private static final String[] LEAVES = {"wet", "dry", "near", "old", "day", "salt"};
    private static final String[] TOKENS = {"wet", "dry", "near", "old", "day", "salt", "soak", "leak", "dries",
        "or", "and", "not", "(", ")", ";", "+", "-", "*", "<", "=", "0", "7", "9999", "10000", "012", "00012",
        "we", "wett", "ands", "x", "/", "A", "\t", "{", "`", "\0", "\u00e9", ":", "@", "z"};
    private final Dice dice;
    private final StringBuilder made = new StringBuilder();

    TextMaker(Dice dice) {
        this.dice = dice;
    }

    String make() {
        for (int tries = 0; tries < 50; tries++) {
            made.setLength(0);
            int size = dice.between(0, 4);
            for (String key : new String[] {"soak", "leak", "dries"}) {
                put(key);
                either(size, size + 1);
                put(";");
            }
            if (made.length() <= 160) break;
        }
        for (int slips = dice.onceIn(3) ? dice.between(1, 2) : 0; slips > 0; slips--) slip();
        if (made.length() > 160) made.setLength(160);
        return made.toString();
    }

    private void put(String word) {
        boolean glued = made.length() > 0 && Character.isLetterOrDigit(made.charAt(made.length() - 1))
            && Character.isLetterOrDigit(word.charAt(0));
        if (glued || dice.onceIn(6)) made.append(dice.onceIn(4) ? '\n' : ' ');
        made.append(word);
    }

    private void slip() {
        int at = made.length() == 0 ? 0 : dice.below(made.length() + 1);
        switch (dice.below(4)) {
            case 0:
                made.insert(at, dice.onceIn(2) ? TOKENS[dice.below(TOKENS.length)] : " " + TOKENS[dice.below(TOKENS.length)] + " ");
                break;
            case 1:
                if (at < made.length()) made.deleteCharAt(at);
                break;
            case 2:
                made.setLength(at);
                break;
            default:
                if (at < made.length()) made.setCharAt(at, (char) dice.below(256));
        }
    }

    private void either(int size, int depth) {
        both(size, depth);
        while (dice.onceIn(8)) {
            put("or");
            both(size - 1, depth);
        }
    }

    private void both(int size, int depth) {
        unless(size, depth);
        while (dice.onceIn(8)) {
            put("and");
            unless(size - 1, depth);
        }
    }

    private void unless(int size, int depth) {
        if (depth > 0 && dice.onceIn(6)) {
            put("not");
            unless(size, depth - 1);
            return;
        }
        sum(size, depth);
        if (dice.onceIn(4)) {
            put(dice.onceIn(3) ? "=" : "<");
            sum(size - 1, depth);
        }
    }

    private void sum(int size, int depth) {
        term(size, depth);
        while (dice.onceIn(3)) {
            put(dice.onceIn(2) ? "+" : "-");
            term(size - 1, depth);
        }
    }

    private void term(int size, int depth) {
        one(size, depth);
        while (dice.onceIn(5)) {
            put("*");
            one(size - 1, depth);
        }
    }

    private void one(int size, int depth) {
        if (depth > 0 && size > 0 && dice.onceIn(3)) {
            if (dice.onceIn(2)) {
                put("-");
                one(size, depth - 1);
            } else {
                put("(");
                either(size - 1, depth - 1);
                put(")");
            }
        } else if (dice.onceIn(2)) {
            put(LEAVES[dice.below(LEAVES.length)]);
        } else {
            put(Integer.toString(dice.onceIn(6) ? dice.below(10000) : dice.below(12)));
        }
    }
}
