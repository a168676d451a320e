import java.util.Random;

/** Texts for the TAPE, drawn by a given Random: LAWS, and LAWS spoilt in one place. */
final class LawTexts {
    private static final String[] WORDS = {"minute", "rank", "day", "service", "post", "near", "paper", "listed",
        "own", "depth", "fallen", "since", "doing"};
    private static final String[] KEYS = {"paper", "list", "post", "rank", "day", "near", "own"};
    private static final String[] SIGNS = {"<", "<=", "=", ">=", ">"};
    private static final String[] PIECES = {"first", "bar", "lapse", "if", "and", "or", "not", "[", "]", ";", "+",
        "-", "<", "<=", "=", ">=", ">", " ", "  ", "7", "0042", "99999", "rank", "near", "list", "listed", "Rank",
        "firstrank", "=>", "\t", "\u00e9", "z", "9rank", "rank9"};

    private final Random random;
    private final StringBuilder text = new StringBuilder();

    LawTexts(Random random) {
        this.random = random;
    }

    private String any(String[] of) {
        return of[random.nextInt(of.length)];
    }

    /** A LAW of few CLAUSES that tell something of those who are there. */
    String useful() {
        text.setLength(0);
        int clauses = 1 + random.nextInt(4);
        for (int i = 0; i < clauses; i++) {
            text.append(i == 0 ? "" : random.nextBoolean() ? ";" : " ; ");
            int kind = random.nextInt(8);
            if (kind < 5) {
                text.append("first ").append(any(KEYS));
                if (random.nextInt(3) == 0) {
                    text.append(" if ");
                    test(2);
                }
            } else {
                text.append(kind < 6 ? "bar " : "lapse ");
                test(2);
            }
        }
        return fit();
    }

    private void test(int depth) {
        fact(depth);
        while (random.nextInt(4) == 0) {
            text.append(random.nextBoolean() ? " and " : " or ");
            fact(depth);
        }
    }

    private void fact(int depth) {
        int kind = random.nextInt(6);
        if (kind == 0 && depth > 0) {
            text.append("not ");
            fact(depth - 1);
        } else if (kind == 1 && depth > 0) {
            text.append("[");
            test(depth - 1);
            text.append("]");
        } else {
            String word = any(WORDS);
            text.append(word).append(random.nextBoolean() ? " " : "");
            if (random.nextInt(4) == 0) {
                text.append(random.nextBoolean() ? "+" : "- ").append(random.nextInt(3) == 0 ? any(WORDS) : "2");
            }
            text.append(any(SIGNS)).append(random.nextBoolean() ? " " : "").append(number(word));
        }
    }

    private int number(String word) {
        switch (word) {
            case "minute": return random.nextInt(40);
            case "near": return random.nextInt(150);
            case "paper":
            case "own":
            case "fallen": return random.nextInt(2);
            case "since": return random.nextInt(20);
            default: return random.nextInt(6);
        }
    }

    private String fit() {
        return text.length() > 400 ? "first rank" : text.toString();
    }

    /** A useful LAW of which a piece is put in, taken out or put for another. */
    String spoilt() {
        StringBuilder spoilt = new StringBuilder(useful());
        int edits = 1 + random.nextInt(2);
        for (int i = 0; i < edits; i++) {
            int at = random.nextInt(spoilt.length() + 1);
            int kind = random.nextInt(3);
            if (kind != 0 && at < spoilt.length()) {
                spoilt.delete(at, Math.min(spoilt.length(), at + 1 + random.nextInt(3)));
            }
            if (kind != 1) {
                spoilt.insert(Math.min(at, spoilt.length()), any(PIECES));
            }
        }
        return spoilt.substring(0, Math.min(400, spoilt.length()));
    }

    /** Pieces in any order. */
    String wild() {
        text.setLength(0);
        int pieces = random.nextInt(12);
        text.append(random.nextBoolean() ? "bar " : "");
        for (int i = 0; i < pieces; i++) {
            text.append(any(PIECES)).append(random.nextBoolean() ? " " : "");
        }
        return text.toString();
    }

    /** A text about the limits: values, depth or CLAUSES, a few less or more than there may be. */
    String atLimits() {
        text.setLength(0);
        int kind = random.nextInt(3);
        if (kind == 0) {
            text.append("bar 1");
            int values = 24 + random.nextInt(8);
            for (int i = 1; i < values; i++) {
                text.append("+1");
            }
            text.append("<").append(random.nextInt(50));
            for (int i = values + 2; i < 58 + random.nextInt(5); i++) {
                text.append(random.nextInt(12) == 0 ? " and rank=rank" : random.nextBoolean() ? "-1" : "+post");
            }
            text.append(random.nextInt(3) == 0 ? "<12345" : "=2");
        } else if (kind == 1) {
            text.append("first day if ");
            int depth = 8 + random.nextInt(4);
            int open = 0;
            for (int i = 0; i < depth; i++) {
                boolean isNot = random.nextBoolean();
                text.append(isNot ? "not " : "[");
                open += isNot ? 0 : 1;
            }
            text.append("rank > 3");
            for (int i = 0; i < open; i++) {
                text.append("]");
            }
            text.append(" and not not [ post = 0 or 1 < 2 ]");
        } else {
            int clauses = 11 + random.nextInt(4);
            for (int i = 0; i < clauses; i++) {
                text.append(i == 0 ? "" : "; ").append(random.nextInt(30) == 0 ? "bad" : "first ").append(any(KEYS));
            }
        }
        return fit();
    }

    String some() {
        switch (random.nextInt(8)) {
            case 0: return spoilt();
            case 1: return random.nextBoolean() ? wild() : atLimits();
            default: return useful();
        }
    }
}
