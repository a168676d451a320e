import java.util.Random;

/** Runs of calls drawn by number: the program's every answer against the Oracle's. */
public final class OracleTest {
    private static final int[] EDGES = {-1, -2, -1000, Integer.MIN_VALUE, Integer.MAX_VALUE, 2880, 100, 24, 12, 10, 9};

    private final Check check;
    private final int run;
    private final Random random;
    private final LawTexts texts;
    private final WhoCommands x = new WhoCommands();
    private final Oracle o = new Oracle();
    /** Of so many numbers one is another than it should be. */
    private final int odds;
    private int calls = 0;

    private OracleTest(Check check, int run) {
        this.check = check;
        this.run = run;
        odds = run % 2 == 0 ? 40 : 400;
        random = new Random(run);
        texts = new LawTexts(random);
    }

    private void due(String call, int got, int want) {
        calls++;
        check.due("run " + run + ", call " + calls + ", " + call, got, want);
    }

    private void due(String call, boolean got, boolean want) {
        due(call, got ? 1 : 0, want ? 1 : 0);
    }

    /** A number from 0 to below a limit, and now and then another one. */
    private int upTo(int limit) {
        if (random.nextInt(odds) == 0) {
            return random.nextInt(3) == 0 ? random.nextInt() : EDGES[random.nextInt(EDGES.length)];
        }
        return random.nextInt(Math.max(1, limit));
    }

    private int orNone(int limit) {
        return random.nextInt(6) == 0 ? -1 : upTo(limit);
    }

    private int minute() {
        switch (random.nextInt(odds)) {
            case 0: return upTo(2880);
            case 1: return 2879;
            default: return upTo(40);
        }
    }

    private int spot() {
        return random.nextInt(3) == 0 ? upTo(100) : 10 * random.nextInt(3);
    }

    private int body() {
        return upTo(o.count(0));
    }

    private int person() {
        return upTo(o.count(1));
    }

    private void tellBody() {
        int above = random.nextInt(5) == 0 ? -1 : orNone(o.count(0));
        int service = upTo(random.nextInt(10) == 0 ? 5 : 4);
        int px = spot();
        int py = spot();
        due("body(" + above + ", " + service + ", " + px + ", " + py + ")", x.body(above, service, px, py),
                o.body(above, service, px, py));
    }

    private void tellPerson() {
        int rank = upTo(random.nextInt(10) == 0 ? 11 : 4);
        int day = random.nextInt(10) == 0 ? upTo(10002) : upTo(4);
        int service = upTo(4);
        int body = body();
        int post = upTo(random.nextInt(10) == 0 ? 11 : 3);
        due("person(" + rank + ", " + day + ", " + service + ", " + body + ", " + post + ")",
                x.person(rank, day, service, body, post), o.person(rank, day, service, body, post));
    }

    private void tellStep() {
        int person = person();
        int minute = minute();
        int px = spot();
        int py = spot();
        due("step(" + person + ", " + minute + ", " + px + ", " + py + ")", x.step(person, minute, px, py),
                o.step(person, minute, px, py));
    }

    private void tellPaper() {
        int person = person();
        int body = body();
        int from = minute();
        int till = random.nextInt(3) == 0 ? minute() : from + 1 + random.nextInt(20);
        due("paper(" + person + ", " + body + ", " + from + ", " + till + ")", x.paper(person, body, from, till),
                o.paper(person, body, from, till));
    }

    private void tellList() {
        int body = body();
        int person = person();
        due("list(" + body + ", " + person + ")", x.list(body, person), o.list(body, person));
    }

    private void tellFall() {
        int person = person();
        int minute = minute();
        due("falls(" + person + ", " + minute + ")", x.falls(person, minute), o.falls(person, minute));
    }

    private void tellLaw() {
        String text = texts.some();
        for (int at = 0; at < text.length(); at += 20) {
            int[] five = new int[5];
            for (int i = 0; i < 20; i++) {
                int sign = at + i < text.length() ? text.charAt(at + i) : random.nextInt(256);
                five[i / 4] = five[i / 4] << 8 | sign;
            }
            due("feed", x.feed(five[0], five[1], five[2], five[3], five[4]),
                    o.feed(five[0], five[1], five[2], five[3], five[4]));
        }
        if (random.nextInt(50) != 0) {
            due("end(" + text.length() + ")", x.end(text.length()), o.end(text.length()));
        }
        if (random.nextInt(20) == 0) {
            int n = upTo(420);
            due("end(" + n + ")", x.end(n), o.end(n));
        }
        due("law() of " + text, x.law(), o.law());
    }

    private void tellRules() {
        int body = body();
        int law = random.nextInt(15) == 0 ? -1 : upTo(o.count(5));
        due("rules(" + body + ", " + law + ")", x.rules(body, law), o.rules(body, law));
    }

    private void tellMessage() {
        boolean isPaper = random.nextInt(3) == 0;
        int of = isPaper ? upTo(o.count(3)) : person();
        int to = person();
        int comes = random.nextInt(8) == 0 ? -1 : minute();
        due("message(" + isPaper + ", " + of + ", " + to + ", " + comes + ")", x.message(isPaper, of, to, comes),
                o.message(isPaper, of, to, comes));
    }

    private void tellOrder() {
        int body = body();
        int given = minute();
        int chief = o.commands(body, given);
        int giver = random.nextInt(4) != 0 && chief >= 0 ? chief : person();
        int thing = upTo(random.nextInt(10) == 0 ? 11 : 4);
        int comes = random.nextInt(20) == 0 ? minute() : given + random.nextInt(4);
        int until = random.nextInt(20) == 0 ? minute() : given + random.nextInt(30);
        due("order(" + giver + ", " + body + ", " + thing + ", " + given + ", " + comes + ", " + until + ")",
                x.order(giver, body, thing, given, comes, until), o.order(giver, body, thing, given, comes, until));
    }

    private void tellSomething() {
        switch (random.nextInt(16)) {
            case 0: tellBody(); break;
            case 1: case 2: tellPerson(); break;
            case 3: case 4: tellStep(); break;
            case 5: tellPaper(); break;
            case 6: case 7: tellList(); break;
            case 8: tellFall(); break;
            case 9: tellLaw(); break;
            case 10: case 11: tellRules(); break;
            case 12: case 13: tellMessage(); break;
            case 14: tellOrder(); break;
            default:
                int n = random.nextInt(3) == 0 ? upTo(101) : random.nextInt(40);
                due("sight(" + n + ")", x.sight(n), o.sight(n));
        }
    }

    private void askOfCommand() {
        int body = body();
        int minute = minute();
        int a = person();
        int b = person();
        int what = upTo(2);
        String at = body + ", " + minute + ")";
        due("near(" + a + ", " + at, x.near(a, body, minute), o.near(a, body, minute));
        due("may(" + at, x.may(body, minute), o.may(body, minute));
        due("commands(" + at, x.commands(body, minute), o.commands(body, minute));
        due("ahead(" + a + ", " + b + ", " + at + " what " + what, x.ahead(a, b, body, minute, what),
                o.ahead(a, b, body, minute, what));
        int many = upTo(random.nextInt(4) == 0 ? 10 : 4);
        int k = upTo(Math.max(1, Math.min(many + 1, 10)));
        due("brief(" + at + " " + many + ", " + k, x.brief(body, minute, many, k), o.brief(body, minute, many, k));
        int other = body();
        int law = upTo(o.count(5));
        due("allied(" + body + ", " + other + ", " + law + ", " + minute, x.allied(body, other, law, minute),
                o.allied(body, other, law, minute));
    }

    private void askOfMinds() {
        int body = body();
        int minute = minute();
        int person = person();
        boolean isPaper = random.nextInt(3) == 0;
        int of = isPaper ? upTo(o.count(3)) : person();
        for (int i = 0; i < 8 && !isPaper && o.knows(of, false, of, minute) != 1; i++) {
            of = person();
        }
        int message = upTo(o.count(6));
        String at = body + ", " + minute + ")";
        due("knows(" + person + ", " + isPaper + ", " + of + ", " + minute + ")",
                x.knows(person, isPaper, of, minute), o.knows(person, isPaper, of, minute));
        due("thinks(" + person + ", " + at, x.thinks(person, body, minute), o.thinks(person, body, minute));
        due("wrong(" + at, x.wrong(body, minute), o.wrong(body, minute));
        due("hangs(" + message + ", " + at, x.hangs(message, body, minute), o.hangs(message, body, minute));
    }

    private void askOfOrders() {
        int order = upTo(o.count(7));
        int body = body();
        int minute = minute();
        int thing = upTo(random.nextInt(10) == 0 ? 11 : 4);
        String at = body + ", " + minute + ")";
        due("seat(" + order + ")", x.seat(order), o.seat(order));
        due("force(" + order + ", " + minute + ")", x.force(order, minute), o.force(order, minute));
        due("bound(" + at, x.bound(body, minute), o.bound(body, minute));
        due("cross(" + at, x.cross(body, minute), o.cross(body, minute));
        due("answers(" + at + " " + thing, x.answers(body, minute, thing), o.answers(body, minute, thing));
    }

    private void askOfSpans() {
        int body = body();
        int from = minute();
        int to = random.nextInt(30) == 0 ? minute() : from + random.nextInt(random.nextInt(30) == 0 ? 310 : 25);
        int what = upTo(4);
        int person = orNone(o.count(1));
        String at = body + ", " + from + ", " + to + ", ";
        due("gaps(" + at + what + ")", x.gaps(body, from, to, what), o.gaps(body, from, to, what));
        due("judge(" + at + person + ")", x.judge(body, from, to, person), o.judge(body, from, to, person));
    }

    private void askOfWhatWouldBe() {
        int body = body();
        int minute = minute();
        int what = upTo(2);
        int seed = random.nextInt(10) == 0 ? random.nextInt() : random.nextInt() & Integer.MAX_VALUE;
        int chance = random.nextInt(10) == 0 ? upTo(103) : upTo(60);
        int n = upTo(random.nextInt(10) == 0 ? 53 : 4);
        String at = body + ", " + minute + ", ";
        due("doubt(" + at + what + ")", x.doubt(body, minute, what), o.doubt(body, minute, what));
        due("mended(" + at + what + ")", x.mended(body, minute, what), o.mended(body, minute, what));
        due("fights(" + at + seed + ", " + chance + ", " + n + ", " + what + ")",
                x.fights(body, minute, seed, chance, n, what), o.fights(body, minute, seed, chance, n, what));
    }

    private void askOfMarks() {
        int k = random.nextInt(10) == 0 ? upTo(5) : random.nextInt(2);
        if (random.nextInt(3) != 0) {
            due("mark(" + k + ")", x.mark(k), o.mark(k));
        } else {
            due("back(" + k + ")", x.back(k), o.back(k));
        }
        int what = upTo(10);
        due("count(" + what + ")", x.count(what), o.count(what));
    }

    private void ask() {
        switch (random.nextInt(7)) {
            case 0: askOfCommand(); break;
            case 1: case 2: askOfMinds(); break;
            case 3: askOfOrders(); break;
            case 4: askOfSpans(); break;
            case 5: askOfWhatWouldBe(); break;
            default: askOfMarks();
        }
    }

    /** The one who commands a BODY falls, and some hear of it. */
    private void tellFallOfChief() {
        int body = body();
        int minute = minute();
        int chief = o.commands(body, minute);
        due("falls(" + chief + ", " + minute + ")", x.falls(chief, minute), o.falls(chief, minute));
        for (int i = 0; i < 3; i++) {
            int to = person();
            int comes = minute + random.nextInt(6);
            due("message(false, " + chief + ", " + to + ", " + comes + ")", x.message(false, chief, to, comes),
                    o.message(false, chief, to, comes));
        }
    }

    /** Much is told first, of which then is asked. */
    private void goThick() {
        due("body", x.body(-1, 0, 50, 50), o.body(-1, 0, 50, 50));
        for (int i = 0; i < 2 + random.nextInt(5); i++) {
            tellBody();
        }
        int people = 6 + random.nextInt(20);
        for (int i = 0; i < people; i++) {
            tellPerson();
        }
        for (int i = 0; i < 4 + random.nextInt(8); i++) {
            tellLaw();
        }
        for (int body = 0; body < o.count(0); body++) {
            int law = random.nextInt(Math.max(1, o.count(5)));
            due("rules", x.rules(body, law), o.rules(body, law));
        }
        int rounds = 4 + random.nextInt(8);
        for (int i = 0; i < rounds; i++) {
            tellStep();
            tellStep();
            tellPaper();
            tellList();
            tellMessage();
            tellOrder();
            tellOrder();
            if (i % 3 == 0) {
                tellFallOfChief();
            }
        }
        while (calls < 480) {
            ask();
        }
    }

    private void go() {
        for (int i = 0; i < 2 + random.nextInt(3); i++) {
            tellBody();
        }
        for (int i = 0; i < 3 + random.nextInt(5); i++) {
            tellPerson();
        }
        for (int i = 0; i < 1 + random.nextInt(3); i++) {
            tellLaw();
        }
        for (int i = 0; i < 4; i++) {
            tellRules();
        }
        while (calls < 470) {
            if (random.nextBoolean()) {
                tellSomething();
            } else {
                ask();
            }
        }
    }

    public static void main(String[] args) {
        int first = args.length > 0 ? Integer.parseInt(args[0]) : 0;
        int runs = args.length > 1 ? Integer.parseInt(args[1]) : 150;
        Check check = new Check();
        for (int run = first; run < first + runs; run++) {
            OracleTest test = new OracleTest(check, run);
            if (run % 2 == 0) {
                test.go();
            } else {
                test.goThick();
            }
        }
        check.end("OracleTest");
    }
}
