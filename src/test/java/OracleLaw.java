import java.util.ArrayList;
import java.util.List;
import java.util.Map;
import java.util.Set;

/** A LAW read byte by byte into a tree: the document's grammar once more, in another way than the program's. */
final class OracleLaw {
    /** Where and how a text is no LAW. */
    static final class Fault extends Exception {
        private static final long serialVersionUID = 1L;
        final int number;

        Fault(int place, int kind) {
            number = 1 + 8 * place + kind;
        }
    }

    interface Test {
        boolean holds(Map<String, Integer> words);
    }

    interface Sum {
        int value(Map<String, Integer> words);
    }

    static final class Clause {
        String kind;
        String key;
        Test test = words -> true;
    }

    private static final Set<String> KEYS = Set.of("paper", "list", "post", "rank", "day", "near", "own");
    private static final Set<String> WORDS = Set.of("minute", "rank", "day", "service", "post", "near", "paper",
            "listed", "own", "depth", "fallen", "since", "doing");

    final List<Clause> clauses = new ArrayList<>();
    private final String text;
    private int at = 0;
    private int counted = 0;

    OracleLaw(String text) throws Fault {
        this.text = text;
        do {
            clauses.add(clause());
            blanks();
        } while (take(";"));
        if (at < text.length()) {
            throw new Fault(at, 0);
        }
    }

    private void blanks() {
        while (at < text.length() && text.charAt(at) == ' ') {
            at++;
        }
    }

    private boolean take(String sign) {
        blanks();
        if (text.startsWith(sign, at)) {
            at += sign.length();
            return true;
        }
        return false;
    }

    /** The word that stands next, without going past it; empty if none does. */
    private String word() {
        blanks();
        int end = at;
        while (end < text.length() && text.charAt(end) >= 'a' && text.charAt(end) <= 'z') {
            end++;
        }
        return text.substring(at, end);
    }

    private boolean takeWord(String word) {
        if (word().equals(word)) {
            at += word.length();
            return true;
        }
        return false;
    }

    private Clause clause() throws Fault {
        Clause clause = new Clause();
        clause.kind = word();
        if (!Set.of("first", "bar", "lapse").contains(clause.kind)) {
            throw new Fault(at, 0);
        }
        if (clauses.size() == 12) {
            throw new Fault(at, 4);
        }
        at += clause.kind.length();
        if (!clause.kind.equals("first")) {
            clause.test = test(0);
            return clause;
        }
        clause.key = word();
        if (!KEYS.contains(clause.key)) {
            throw new Fault(at, 0);
        }
        at += clause.key.length();
        if (takeWord("if")) {
            clause.test = test(0);
        }
        return clause;
    }

    private Test test(int depth) throws Fault {
        Test whole = part(depth);
        while (takeWord("or")) {
            Test left = whole;
            Test right = part(depth);
            whole = words -> left.holds(words) || right.holds(words);
        }
        return whole;
    }

    private Test part(int depth) throws Fault {
        Test whole = fact(depth);
        while (takeWord("and")) {
            Test left = whole;
            Test right = fact(depth);
            whole = words -> left.holds(words) && right.holds(words);
        }
        return whole;
    }

    private Test fact(int depth) throws Fault {
        blanks();
        int place = at;
        if (takeWord("not")) {
            if (depth == 10) {
                throw new Fault(place, 2);
            }
            Test inner = fact(depth + 1);
            return words -> !inner.holds(words);
        }
        if (take("[")) {
            if (depth == 10) {
                throw new Fault(place, 2);
            }
            Test inner = test(depth + 1);
            if (!take("]")) {
                throw new Fault(at, 0);
            }
            return inner;
        }
        Sum left = sum();
        blanks();
        place = at;
        for (String sign : List.of("<=", ">=", "<", "=", ">")) {
            if (take(sign)) {
                countOne(place);
                Sum right = sum();
                return words -> compare(left.value(words), sign, right.value(words));
            }
        }
        throw new Fault(place, 0);
    }

    private static boolean compare(int a, String sign, int b) {
        return sign.contains("=") && a == b || sign.contains("<") && a < b || sign.contains(">") && a > b;
    }

    private void countOne(int place) throws Fault {
        counted++;
        if (counted > 60) {
            throw new Fault(place, 3);
        }
    }

    private Sum sum() throws Fault {
        Sum whole = value();
        while (true) {
            Sum left = whole;
            if (take("+")) {
                Sum right = value();
                whole = words -> left.value(words) + right.value(words);
            } else if (take("-")) {
                Sum right = value();
                whole = words -> left.value(words) - right.value(words);
            } else {
                return whole;
            }
        }
    }

    private Sum value() throws Fault {
        blanks();
        int place = at;
        String word = word();
        if (WORDS.contains(word)) {
            countOne(place);
            at += word.length();
            return words -> words.get(word);
        }
        int end = at;
        while (end < text.length() && text.charAt(end) >= '0' && text.charAt(end) <= '9') {
            end++;
        }
        if (end == at) {
            throw new Fault(place, 0);
        }
        if (end - at > 4) {
            throw new Fault(place, 1);
        }
        countOne(place);
        int number = Integer.parseInt(text.substring(at, end));
        at = end;
        return words -> number;
    }
}
