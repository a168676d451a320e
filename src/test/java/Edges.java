import java.util.List;

/**
 * Compares answers with those that are due by a sentence of the document, which is named ahead of them.
 * Every object lives for 512 calls at most, as the document says.
 */
final class Edges {
    interface Telling {
        void to(WhoCommands x);
    }

    interface Call {
        int on(WhoCommands x);
    }

    interface Limited {
        int on(WhoCommands x, int n);
    }

    private final Check check;
    private final Document document;
    private String sentence = "no sentence";
    private Telling world = Worlds::nothing;

    Edges(Check check, Document document) {
        this.check = check;
        this.document = document;
    }

    /** A sentence of what stands ahead of the Terms. */
    void use(String words) {
        sentence = words;
        due("times that the sentence stands in the document", document.nameUse(words), 1);
    }

    /** A sentence of the Terms. */
    void term(String words) {
        sentence = words;
        due("times that the sentence stands in the Terms", document.nameTerm(words), 1);
    }

    void promise(int number, String words) {
        sentence = "promise " + number + ": " + words;
        due("times that the sentence stands in the promise", document.namePromise(number, words), 1);
    }

    void due(String what, int got, int want) {
        check.due("[" + sentence + "] " + what, got, want);
    }

    void due(String what, boolean got, boolean want) {
        due(what, got ? 1 : 0, want ? 1 : 0);
    }

    /** What the objects are told of which the next lines speak. */
    void in(Telling told) {
        world = told;
    }

    WhoCommands told() {
        WhoCommands x = new WhoCommands();
        world.to(x);
        return x;
    }

    /** A call answers so. */
    void takes(String what, int want, Call call) {
        due(what, call.on(told()), want);
    }

    /** A call answers so and changes nothing: a twin that never had it answers the same from then on. */
    void leaves(String what, int want, Call call) {
        WhoCommands one = told();
        WhoCommands twin = told();
        due(what, call.on(one), want);
        alike(what, one, twin);
    }

    /** Behind something that the one was told, both answer the same. */
    void alike(String what, WhoCommands one, WhoCommands twin) {
        List<String> behind = Probes.answers(one);
        List<String> without = Probes.answers(twin);
        for (int i = 0; i < Math.max(behind.size(), without.size()); i++) {
            String got = i < behind.size() ? behind.get(i) : "nothing";
            String wanted = i < without.size() ? without.get(i) : "nothing";
            due("behind " + what + ": " + got + ", without it " + wanted, got.equals(wanted), true);
        }
    }

    /** What is told is taken from low to high, and beyond refused. */
    void limits(String what, int low, int high, int want, int refused, Limited call) {
        takes(what + " " + low, want, x -> call.on(x, low));
        takes(what + " " + high, want, x -> call.on(x, high));
        beyond(what, low, high, refused, call);
    }

    /** What is asked is answered from low to high, and beyond refused. */
    void asked(String what, int low, int wantLow, int high, int wantHigh, int refused, Limited call) {
        leaves(what + " " + low, wantLow, x -> call.on(x, low));
        leaves(what + " " + high, wantHigh, x -> call.on(x, high));
        beyond(what, low, high, refused, call);
    }

    void beyond(String what, int low, int high, int refused, Limited call) {
        int[] all = {low - 1, high + 1, Integer.MIN_VALUE, Integer.MAX_VALUE};
        for (int n : all) {
            if (n < low || n > high) {
                leaves(what + " " + n, refused, x -> call.on(x, n));
            }
        }
    }
}
