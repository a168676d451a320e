import java.util.ArrayList;
import java.util.HashMap;
import java.util.List;
import java.util.Map;
import java.util.Set;
import java.util.TreeMap;
import java.util.TreeSet;
import java.util.regex.Matcher;
import java.util.regex.Pattern;

/** The methods of a source text, and which calls which, by names alone: those of one name count as one. */
final class SourceMethods {
    private static final Pattern HEAD =
            Pattern.compile("( {4}| {8})(?:private |public |static )*(?:[\\w\\[\\]]+ )?(\\w+)\\([^()]*\\) \\{");
    private static final Pattern CALL = Pattern.compile("(\\w+)\\(");

    private final Map<String, Set<String>> calls = new TreeMap<>();
    private final Map<String, Integer> lines = new HashMap<>();

    SourceMethods(String code) {
        String end = "";
        String name = "";
        int length = 0;
        for (String line : code.split("\n")) {
            Matcher head = HEAD.matcher(line);
            if (name.isEmpty() && head.matches()) {
                end = head.group(1) + "}";
                name = head.group(2);
                length = 0;
                calls.computeIfAbsent(name, n -> new TreeSet<>());
            } else if (!name.isEmpty()) {
                addCalls(name, line);
            }
            length++;
            if (line.equals(end)) {
                lines.merge(name, length, Math::max);
                name = "";
                end = "";
            }
        }
    }

    private void addCalls(String name, String line) {
        Matcher call = CALL.matcher(line);
        while (call.find()) {
            calls.get(name).add(call.group(1));
        }
    }

    Set<String> names() {
        return calls.keySet();
    }

    /** Of how many lines the longest method of a name is. */
    int lines(String name) {
        return lines.getOrDefault(name, 0);
    }

    /** The longest row of calls that begins with a method and has none twice. */
    List<String> deepest(String name) {
        return deepest(name, new ArrayList<>());
    }

    private List<String> deepest(String name, List<String> open) {
        List<String> row = new ArrayList<>(open);
        row.add(name);
        List<String> longest = row;
        for (String called : calls.getOrDefault(name, Set.of())) {
            if (!row.contains(called)) {
                List<String> deeper = deepest(called, row);
                longest = deeper.size() > longest.size() ? deeper : longest;
            }
        }
        return longest;
    }
}
