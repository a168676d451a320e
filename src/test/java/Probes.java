import java.util.ArrayList;
import java.util.List;

/** Asks an object of all that it holds, in fewer than 260 calls; the last of them change it. */
final class Probes {
    private static final int[] MINUTES = {0, 12, 30, 45, 2879};

    private final WhoCommands x;
    private final List<String> answers = new ArrayList<>();
    private final int bodies;
    private final int people;

    private Probes(WhoCommands x) {
        this.x = x;
        bodies = Math.min(4, x.count(0));
        people = Math.min(6, x.count(1));
    }

    static List<String> answers(WhoCommands x) {
        Probes probes = new Probes(x);
        probes.counts("");
        probes.ofCommand();
        probes.ofMinds();
        probes.ofOrders();
        probes.ofSpans();
        probes.ofTelling();
        probes.ofMarks();
        return probes.answers;
    }

    private void add(String call, int answer) {
        answers.add(call + " = " + answer);
    }

    private void counts(String when) {
        for (int what = 0; what <= 8; what++) {
            add(when + "count(" + what + ")", x.count(what));
        }
    }

    private void ofCommand() {
        for (int minute : MINUTES) {
            for (int body = 0; body < bodies; body++) {
                String at = "(" + body + ", " + minute + ")";
                add("commands" + at, x.commands(body, minute));
                add("may" + at, x.may(body, minute));
                add("wrong" + at, x.wrong(body, minute));
                add("bound" + at, x.bound(body, minute));
            }
        }
        add("ahead, who", x.ahead(0, 1, 0, 12, 0));
        add("ahead, clause", x.ahead(0, 1, 0, 12, 1));
        add("allied", x.allied(0, 1, 0, 12));
    }

    private void ofMinds() {
        for (int person = 0; person < people; person++) {
            add("near of " + person, x.near(person, 0, 12));
            add("thinks of " + person + " for 0", x.thinks(person, 0, 45));
            add("thinks of " + person + " for 1", x.thinks(person, 1, 12));
            add("knows of a fall, " + person, x.knows(person, false, 0, 30));
            add("knows of a paper, " + person, x.knows(person, true, 0, 45));
        }
        for (int message = 0; message < Math.min(4, x.count(6)); message++) {
            add("hangs at 35 on " + message, x.hangs(message, 0, 35));
            add("hangs at 45 on " + message, x.hangs(message, 0, 45));
        }
    }

    private void ofOrders() {
        for (int order = 0; order < Math.min(4, x.count(7)); order++) {
            add("seat of " + order, x.seat(order));
            add("force of " + order + " at 12", x.force(order, 12));
            add("force of " + order + " at 40", x.force(order, 40));
        }
    }

    private void ofSpans() {
        for (int body = 0; body < Math.min(3, bodies); body++) {
            String of = " of " + body;
            add("cross" + of, x.cross(body, 15));
            add("answers" + of, x.answers(body, 15, 4));
            for (int what = 0; what < 4; what++) {
                add("gaps " + what + of, x.gaps(body, 0, 60, what));
            }
            for (int what = 0; what < 2; what++) {
                add("doubt " + what + of, x.doubt(body, 12, what));
                add("mended " + what + of, x.mended(body, 12, what));
                add("fights " + what + of, x.fights(body, 12, 1, 40, 10, what));
            }
            add("judge" + of, x.judge(body, 0, 60, 0));
            add("brief" + of, x.brief(body, 12, 2, 1));
        }
    }

    /** What numbers and places come next, and what stands on the TAPE. */
    private void ofTelling() {
        add("sight", x.sight(40));
        add("law", x.law());
        add("list of 0", x.list(0, 3));
        add("list of 0 again", x.list(0, 4));
        add("list of 1", x.list(1, 3));
        add("falls", x.falls(1, 50) ? 1 : 0);
        add("paper", x.paper(0, 0, 0, 5));
        add("step", x.step(0, 0, 0, 0));
        add("message", x.message(false, 0, 0, 0));
        add("order", x.order(0, 0, 0, 0, 0, 1));
        add("person", x.person(0, 0, 0, 0, 0));
        add("body", x.body(WhoCommands.NONE, 0, 0, 0));
        add("feed", x.feed(0, 0, 0, 0, 0));
    }

    private void ofMarks() {
        for (int k = 0; k < 4; k++) {
            add("back(" + k + ")", x.back(k));
            counts("gone back to " + k + ": ");
            add("gone back to " + k + ": commands", x.commands(0, 12));
        }
    }
}
