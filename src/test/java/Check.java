/** Compares answers with those that are due and ends a test's run. */
final class Check {
    private int calls = 0;
    private int wrong = 0;

    void due(String call, long got, long want) {
        calls++;
        if (got != want) {
            wrong++;
            System.out.println(call + " answered " + got + ", due is " + want);
        }
    }

    void due(String call, boolean got, boolean want) {
        due(call, got ? 1 : 0, want ? 1 : 0);
    }

    /** Puts a text on the TAPE, which must be empty. */
    static void tape(WhoCommands x, String text) {
        int[] five = new int[5];
        for (int at = 0; at < text.length(); at += 20) {
            for (int i = 0; i < 20; i++) {
                int sign = at + i < text.length() ? text.charAt(at + i) : 0;
                five[i / 4] = five[i / 4] << 8 | sign;
            }
            x.feed(five[0], five[1], five[2], five[3], five[4]);
        }
        x.end(text.length());
    }

    /** What law() answers to a text. */
    static int law(WhoCommands x, String text) {
        tape(x, text);
        return x.law();
    }

    /** What law() answers to a FAULT of a kind at a place. */
    static int fault(int place, int kind) {
        return -2 - (1 + 8 * place + kind);
    }

    void end(String name) {
        System.out.println(name + ": " + calls + " answers, " + wrong + " wrong");
        if (wrong != 0) {
            System.exit(1);
        }
    }
}
