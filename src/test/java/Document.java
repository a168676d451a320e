import java.io.IOException;
import java.nio.charset.StandardCharsets;
import java.nio.file.Files;
import java.nio.file.Path;
import java.util.ArrayList;
import java.util.Arrays;
import java.util.List;

/** The words of ../shared/DOC.md, which of them a test has named, and the face that it shows. */
final class Document {
    private static final Path FILE = Path.of("../shared/DOC.md");
    private static final int PROMISES = 37;

    /** A text of which stretches are named. */
    private static final class Part {
        final String title;
        final String text;
        final boolean[] named;

        Part(String title, String text) {
            this.title = title;
            this.text = text;
            this.named = new boolean[text.length()];
        }

        /** How often the words stand in the text; where they do, they are named. */
        int name(String words) {
            int times = 0;
            for (int at = text.indexOf(words); at >= 0; at = text.indexOf(words, at + 1)) {
                Arrays.fill(named, at, at + words.length(), true);
                times++;
            }
            return times;
        }

        void addUnnamed(List<String> all) {
            StringBuilder stretch = new StringBuilder();
            for (int at = 0; at <= text.length(); at++) {
                if (at < text.length() && !named[at]) {
                    stretch.append(text.charAt(at));
                } else {
                    if (stretch.toString().matches(".*[A-Za-z0-9].*")) {
                        all.add(title + ": " + stretch);
                    }
                    stretch.setLength(0);
                }
            }
        }
    }

    private final List<String> face = new ArrayList<>();
    private final Part use;
    private final Part terms;
    private final Part[] promises = new Part[PROMISES + 1];

    Document() throws IOException {
        String whole = new String(Files.readAllBytes(FILE), StandardCharsets.UTF_8);
        for (String line : between(whole, "## The public face", "## Terms").split("\n")) {
            if (line.trim().startsWith("public ")) {
                face.add(line.trim());
            }
        }
        use = new Part("What it is", plain(between(whole, "==== I.", "## The public face")));
        terms = new Part("Terms", plain(between(whole, "## Terms", "## Promise 1:")));
        for (int n = 1; n <= PROMISES; n++) {
            String behind = n == PROMISES ? "## Not promised" : "## Promise " + (n + 1) + ":";
            String promise = between(whole, "## Promise " + n + ":", behind);
            promises[n] = new Part("promise " + n, plain(between(promise, ")`:", null)));
        }
    }

    private static String between(String text, String ahead, String behind) {
        int from = text.indexOf(ahead);
        int to = behind == null ? text.length() : text.indexOf(behind);
        return from < 0 || to < from ? "" : text.substring(from + ahead.length(), to);
    }

    private static String plain(String text) {
        return text.replace("```text", " ").replaceAll("==== [IV]+\\.", " ").replace("`", "")
                .replaceAll("\\s+", " ").trim();
    }

    /** The lines of the public face, as they stand there. */
    List<String> face() {
        return face;
    }

    int nameUse(String words) {
        return use.name(words);
    }

    int nameTerm(String words) {
        return terms.name(words);
    }

    int namePromise(int number, String words) {
        return promises[number].name(words);
    }

    /** What no test has named. */
    List<String> unnamed() {
        List<String> all = new ArrayList<>();
        use.addUnnamed(all);
        terms.addUnnamed(all);
        for (int n = 1; n <= PROMISES; n++) {
            promises[n].addUnnamed(all);
        }
        return all;
    }
}
