import java.util.ArrayList;
import java.util.HashMap;
import java.util.List;
import java.util.Map;
import java.util.Set;
import java.util.TreeSet;

/**
 * The document once more, as its words stand and without regard to speed: what would be is answered by
 * changing a copy of what is told. The program's answers are compared with these.
 */
final class Oracle {
    private static final int NONE = -1;

    record Step(int person, int minute, int x, int y) { }

    record Paper(int person, int body, int from, int till) { }

    record Message(boolean isPaper, int of, int to, int comes) { }

    record Order(int giver, int body, int thing, int given, int comes, int until) { }

    /** above, service, x, y, law; the last may change. */
    private List<int[]> bodies = new ArrayList<>();
    /** rank, day, service, body, post. */
    private List<int[]> people = new ArrayList<>();
    private List<Step> steps = new ArrayList<>();
    private List<Paper> papers = new ArrayList<>();
    private List<List<Integer>> lists = new ArrayList<>();
    private Map<Integer, Integer> fallMinutes = new HashMap<>();
    private List<Message> messages = new ArrayList<>();
    private List<Order> orders = new ArrayList<>();
    private int sight = 10;
    private List<OracleLaw> laws = new ArrayList<>();
    private StringBuilder tape = new StringBuilder();
    private final Oracle[] marks = new Oracle[4];

    private void become(Oracle other) {
        bodies = new ArrayList<>();
        for (int[] body : other.bodies) {
            bodies.add(body.clone());
        }
        people = new ArrayList<>(other.people);
        steps = new ArrayList<>(other.steps);
        papers = new ArrayList<>(other.papers);
        lists = new ArrayList<>();
        for (List<Integer> list : other.lists) {
            lists.add(new ArrayList<>(list));
        }
        fallMinutes = new HashMap<>(other.fallMinutes);
        messages = new ArrayList<>(other.messages);
        orders = new ArrayList<>(other.orders);
        sight = other.sight;
    }

    private Oracle copy() {
        Oracle copy = new Oracle();
        copy.become(this);
        copy.laws = laws;
        return copy;
    }

    private static boolean in(int n, int from, int to) {
        return n >= from && n <= to;
    }

    private static boolean minute(int n) {
        return in(n, 0, 2879);
    }

    private boolean isBody(int n) {
        return in(n, 0, bodies.size() - 1);
    }

    private boolean isPerson(int n) {
        return in(n, 0, people.size() - 1);
    }

    int body(int above, int service, int x, int y) {
        if (bodies.size() == 12 || above != NONE && !isBody(above) || !in(service, 0, 3)
                || !in(x, 0, 99) || !in(y, 0, 99)) {
            return NONE;
        }
        bodies.add(new int[] {above, service, x, y, NONE});
        lists.add(new ArrayList<>());
        return bodies.size() - 1;
    }

    int person(int rank, int day, int service, int body, int post) {
        if (people.size() == 24 || !in(rank, 0, 9) || !in(day, 0, 9999) || !in(service, 0, 3) || !isBody(body)
                || !in(post, 0, 9)) {
            return NONE;
        }
        people.add(new int[] {rank, day, service, body, post});
        return people.size() - 1;
    }

    int step(int person, int minute, int x, int y) {
        if (steps.size() == 200 || !isPerson(person) || !minute(minute) || !in(x, 0, 99) || !in(y, 0, 99)) {
            return NONE;
        }
        steps.add(new Step(person, minute, x, y));
        return steps.size();
    }

    private int[] place(int person, int minute) {
        int[] body = bodies.get(people.get(person)[3]);
        Step last = new Step(person, NONE, body[2], body[3]);
        for (Step step : steps) {
            if (step.person() == person && step.minute() <= minute && step.minute() >= last.minute()) {
                last = step;
            }
        }
        return new int[] {last.x(), last.y()};
    }

    private static int distance(int[] a, int[] b) {
        return Math.abs(a[0] - b[0]) + Math.abs(a[1] - b[1]);
    }

    int near(int person, int body, int minute) {
        if (!isPerson(person) || !isBody(body) || !minute(minute)) {
            return NONE;
        }
        return distance(place(person, minute), new int[] {bodies.get(body)[2], bodies.get(body)[3]});
    }

    int paper(int person, int body, int from, int till) {
        if (papers.size() == 24 || !isPerson(person) || !isBody(body) || !minute(from) || !minute(till) || till <= from) {
            return NONE;
        }
        papers.add(new Paper(person, body, from, till));
        return papers.size() - 1;
    }

    int list(int body, int person) {
        if (!isBody(body) || !isPerson(person) || lists.get(body).size() == 8 || lists.get(body).contains(person)) {
            return NONE;
        }
        lists.get(body).add(person);
        return lists.get(body).size();
    }

    boolean falls(int person, int minute) {
        if (!isPerson(person) || !minute(minute) || fallMinutes.containsKey(person)) {
            return false;
        }
        fallMinutes.put(person, minute);
        return true;
    }

    int feed(int a, int b, int c, int d, int e) {
        if (tape.length() + 20 > 400) {
            return NONE;
        }
        for (int n : new int[] {a, b, c, d, e}) {
            for (int k = 3; k >= 0; k--) {
                tape.append((char) (n >> 8 * k & 0xff));
            }
        }
        return tape.length();
    }

    int end(int n) {
        if (n < 0 || n > tape.length()) {
            return NONE;
        }
        tape.setLength(n);
        return n;
    }

    int law() {
        if (laws.size() == 8) {
            return NONE;
        }
        String text = tape.toString();
        tape.setLength(0);
        try {
            laws.add(new OracleLaw(text));
        } catch (OracleLaw.Fault fault) {
            return -2 - fault.number;
        }
        return laws.size() - 1;
    }

    boolean rules(int body, int law) {
        if (!isBody(body) || !in(law, NONE, laws.size() - 1)) {
            return false;
        }
        bodies.get(body)[4] = law;
        return true;
    }

    private boolean fallen(int person, int minute) {
        return fallMinutes.containsKey(person) && fallMinutes.get(person) <= minute;
    }

    private Set<Integer> allFallen(int minute) {
        Set<Integer> all = new TreeSet<>();
        for (int p = 0; p < people.size(); p++) {
            if (fallen(p, minute)) {
                all.add(p);
            }
        }
        return all;
    }

    private Set<Integer> allPapers() {
        Set<Integer> all = new TreeSet<>();
        for (int p = 0; p < papers.size(); p++) {
            all.add(p);
        }
        return all;
    }

    private boolean isUnder(int body, int top) {
        for (int b = bodies.get(body)[0]; b != NONE; b = bodies.get(b)[0]) {
            if (b == top) {
                return true;
            }
        }
        return false;
    }

    private boolean stands(int person, int body) {
        int own = people.get(person)[3];
        return own == body || isUnder(own, body);
    }

    private Map<String, Integer> words(int person, int body, int minute, Set<Integer> known) {
        int[] p = people.get(person);
        Map<String, Integer> words = new HashMap<>();
        words.put("minute", minute);
        words.put("rank", p[0]);
        words.put("day", p[1]);
        words.put("service", p[2]);
        words.put("post", p[4]);
        words.put("near", near(person, body, minute));
        int has = 0;
        for (int k : known) {
            Paper paper = papers.get(k);
            if (paper.person() == person && paper.body() == body && paper.from() <= minute && minute < paper.till()) {
                has = 1;
            }
        }
        words.put("paper", has);
        words.put("listed", lists.get(body).indexOf(person) + 1);
        words.put("own", p[2] == bodies.get(body)[1] ? 1 : 0);
        int depth = 0;
        if (isUnder(p[3], body)) {
            for (int b = p[3]; b != body; b = bodies.get(b)[0]) {
                depth++;
            }
        }
        words.put("depth", depth);
        words.put("fallen", 0);
        words.put("since", 0);
        words.put("doing", 0);
        return words;
    }

    private static int key(OracleLaw.Clause clause, Map<String, Integer> words) {
        if (!clause.test.holds(words)) {
            return 100000;
        }
        switch (clause.key) {
            case "paper": return words.get("paper") == 1 ? 0 : 1;
            case "list": return words.get("listed") == 0 ? 99 : words.get("listed");
            case "rank": return 9 - words.get("rank");
            case "own": return words.get("own") == 1 ? 0 : 1;
            default: return words.get(clause.key);
        }
    }

    /** The CLAUSE by which two are unlike, and as a sign which of them goes AHEAD. */
    private static int[] unlike(OracleLaw law, Map<String, Integer> a, Map<String, Integer> b) {
        for (int c = 0; c < law.clauses.size(); c++) {
            OracleLaw.Clause clause = law.clauses.get(c);
            if (clause.kind.equals("first") && key(clause, a) != key(clause, b)) {
                return new int[] {c, key(clause, a) < key(clause, b) ? -1 : 1};
            }
        }
        return new int[] {NONE, 0};
    }

    /** Those who MAY, each AHEAD of the next, by FALLS and PAPERS. */
    private List<Integer> those(int body, int minute, Set<Integer> fallen, Set<Integer> known) {
        List<Integer> those = new ArrayList<>();
        if (bodies.get(body)[4] == NONE) {
            return those;
        }
        OracleLaw law = laws.get(bodies.get(body)[4]);
        for (int p = 0; p < people.size(); p++) {
            Map<String, Integer> words = words(p, body, minute, known);
            boolean barred = law.clauses.stream().anyMatch(c -> c.kind.equals("bar") && c.test.holds(words));
            if (stands(p, body) && !fallen.contains(p) && !barred) {
                those.add(p);
            }
        }
        those.sort((a, b) -> {
            int sign = unlike(law, words(a, body, minute, known), words(b, body, minute, known))[1];
            return sign != 0 ? sign : a - b;
        });
        return those;
    }

    private int head(List<Integer> those) {
        return those.isEmpty() ? NONE : those.get(0);
    }

    private List<Integer> truly(int body, int minute) {
        return those(body, minute, allFallen(minute), allPapers());
    }

    int may(int body, int minute) {
        if (!isBody(body) || !minute(minute)) {
            return NONE;
        }
        int bits = 0;
        for (int p : truly(body, minute)) {
            bits += 1 << p;
        }
        return bits;
    }

    int commands(int body, int minute) {
        return isBody(body) && minute(minute) ? head(truly(body, minute)) : -2;
    }

    int ahead(int a, int b, int body, int minute, int what) {
        if (!isPerson(a) || !isPerson(b) || a == b || !isBody(body) || !minute(minute) || !in(what, 0, 1)
                || bodies.get(body)[4] == NONE) {
            return -2;
        }
        int[] unlike = unlike(laws.get(bodies.get(body)[4]), words(a, body, minute, allPapers()),
                words(b, body, minute, allPapers()));
        if (what == 1) {
            return unlike[0];
        }
        return unlike[1] == 0 ? Math.min(a, b) : unlike[1] < 0 ? a : b;
    }

    int message(boolean isPaper, int of, int to, int comes) {
        boolean subject = isPaper ? in(of, 0, papers.size() - 1) : isPerson(of);
        if (messages.size() == 200 || !subject || !isPerson(to) || !in(comes, NONE, 2879)) {
            return NONE;
        }
        messages.add(new Message(isPaper, of, to, comes));
        return messages.size() - 1;
    }

    int sight(int n) {
        if (!in(n, 0, 99)) {
            return NONE;
        }
        int was = sight;
        sight = n;
        return was;
    }

    private boolean heard(int person, boolean isPaper, int of, int minute) {
        for (Message m : messages) {
            if (m.isPaper() == isPaper && m.of() == of && m.to() == person && in(m.comes(), 0, minute)) {
                return true;
            }
        }
        return false;
    }

    int knows(int person, boolean isPaper, int of, int minute) {
        if (!isPerson(person) || !minute(minute)) {
            return NONE;
        }
        if (isPaper) {
            if (!in(of, 0, papers.size() - 1)) {
                return NONE;
            }
            return papers.get(of).person() == person || heard(person, true, of, minute) ? 1 : 0;
        }
        if (!isPerson(of) || !fallen(of, minute)) {
            return NONE;
        }
        int when = fallMinutes.get(of);
        boolean saw = distance(place(person, when), place(of, when)) <= sight;
        return heard(person, false, of, minute) || person == of || saw ? 1 : 0;
    }

    int thinks(int person, int body, int minute) {
        if (!isPerson(person) || !isBody(body) || !minute(minute)) {
            return -2;
        }
        Set<Integer> fallen = new TreeSet<>();
        for (int p : allFallen(minute)) {
            if (knows(person, false, p, minute) == 1) {
                fallen.add(p);
            }
        }
        Set<Integer> known = new TreeSet<>();
        for (int p : allPapers()) {
            if (knows(person, true, p, minute) == 1) {
                known.add(p);
            }
        }
        return head(those(body, minute, fallen, known));
    }

    int wrong(int body, int minute) {
        if (!isBody(body) || !minute(minute)) {
            return NONE;
        }
        int bits = 0;
        for (int p = 0; p < people.size(); p++) {
            if (stands(p, body) && !fallen(p, minute) && thinks(p, body, minute) != commands(body, minute)) {
                bits += 1 << p;
            }
        }
        return bits;
    }

    int order(int giver, int body, int thing, int given, int comes, int until) {
        if (orders.size() == 60 || !isPerson(giver) || !isBody(body) || !in(thing, 0, 9) || !minute(given)
                || !minute(comes) || !minute(until) || comes < given || until <= given) {
            return NONE;
        }
        orders.add(new Order(giver, body, thing, given, comes, until));
        return orders.size() - 1;
    }

    int seat(int order) {
        if (!in(order, 0, orders.size() - 1)) {
            return -2;
        }
        Order o = orders.get(order);
        int seat = NONE;
        for (int b = o.body(); b != NONE; b = bodies.get(b)[0]) {
            if (commands(b, o.given()) == o.giver()) {
                seat = b;
            }
        }
        return seat;
    }

    int force(int order, int minute) {
        if (!in(order, 0, orders.size() - 1) || !minute(minute)) {
            return NONE;
        }
        Order o = orders.get(order);
        if (seat(order) == NONE || minute < o.comes() || minute >= o.until()) {
            return 0;
        }
        if (bodies.get(o.body())[4] != NONE) {
            Map<String, Integer> words = words(o.giver(), o.body(), minute, allPapers());
            words.put("fallen", fallen(o.giver(), minute) ? 1 : 0);
            words.put("since", minute - o.given());
            words.put("doing", o.thing());
            for (OracleLaw.Clause clause : laws.get(bodies.get(o.body())[4]).clauses) {
                if (clause.kind.equals("lapse") && clause.test.holds(words)) {
                    return 0;
                }
            }
        }
        return 1;
    }

    private List<Integer> inForce(int body, int minute) {
        List<Integer> all = new ArrayList<>();
        for (int o = 0; o < orders.size(); o++) {
            if (orders.get(o).body() == body && force(o, minute) == 1) {
                all.add(o);
            }
        }
        return all;
    }

    int bound(int body, int minute) {
        if (!isBody(body) || !minute(minute)) {
            return -2;
        }
        int best = NONE;
        for (int o : inForce(body, minute)) {
            if (best == NONE) {
                best = o;
                continue;
            }
            boolean higher = isUnder(seat(best), seat(o));
            boolean lower = isUnder(seat(o), seat(best));
            if (higher || !lower && orders.get(o).given() >= orders.get(best).given()) {
                best = o;
            }
        }
        return best;
    }

    int cross(int body, int minute) {
        if (!isBody(body) || !minute(minute)) {
            return NONE;
        }
        int pairs = 0;
        List<Integer> all = inForce(body, minute);
        for (int a : all) {
            for (int b : all) {
                pairs += a < b && orders.get(a).thing() != orders.get(b).thing() ? 1 : 0;
            }
        }
        return pairs;
    }

    int answers(int body, int minute, int thing) {
        if (!isBody(body) || !minute(minute) || !in(thing, 0, 9)) {
            return -2;
        }
        int order = bound(body, minute);
        return order != NONE && orders.get(order).thing() == thing ? orders.get(order).giver() : commands(body, minute);
    }

    private boolean span(int body, int from, int to) {
        return isBody(body) && minute(from) && minute(to) && from <= to && to - from + 1 <= 300;
    }

    int gaps(int body, int from, int to, int what) {
        if (!span(body, from, to) || !in(what, 0, 3)) {
            return -2;
        }
        List<Integer> gaps = new ArrayList<>();
        int turns = 0;
        int before = 0;
        for (int m = from; m <= to; m++) {
            int who = commands(body, m);
            if (who == NONE) {
                gaps.add(m);
            }
            turns += m > from && who != before ? 1 : 0;
            before = who;
        }
        int longest = 0;
        for (int m : gaps) {
            int length = 0;
            while (gaps.contains(m + length)) {
                length++;
            }
            longest = Math.max(longest, length);
        }
        return new int[] {gaps.size(), longest, gaps.isEmpty() ? NONE : gaps.get(0), turns}[what];
    }

    /** What would be if one fell in a MINUTE, and no MESSAGE told of it. */
    private Oracle afterFall(Set<Integer> struck, int minute) {
        Oracle copy = copy();
        for (int p : struck) {
            copy.fallMinutes.put(p, minute);
            copy.messages.removeIf(m -> !m.isPaper() && m.of() == p);
        }
        return copy;
    }

    int doubt(int body, int minute, int what) {
        if (!isBody(body) || !minute(minute) || !in(what, 0, 1)) {
            return -2;
        }
        int who = NONE;
        int most = 0;
        for (int p = 0; p < people.size(); p++) {
            if (stands(p, body) && !fallen(p, minute)) {
                int many = Integer.bitCount(afterFall(Set.of(p), minute).wrong(body, minute));
                if (who == NONE || many > most) {
                    who = p;
                    most = many;
                }
            }
        }
        return what == 0 ? who : most;
    }

    int brief(int body, int minute, int many, int k) {
        if (!isBody(body) || !minute(minute) || !in(many, 1, 8) || !in(k, 0, many - 1)) {
            return NONE;
        }
        List<Integer> those = truly(body, minute);
        return those.size() < many ? -2 : those.get(k);
    }

    int fights(int body, int minute, int seed, int chance, int n, int what) {
        if (!isBody(body) || !minute(minute) || seed < 0 || !in(chance, 0, 100) || !in(n, 1, 50) || !in(what, 0, 1)) {
            return NONE;
        }
        long x = seed;
        int many = 0;
        for (int fight = 0; fight < n; fight++) {
            Set<Integer> struck = new TreeSet<>();
            for (int p = 0; p < people.size(); p++) {
                if (!fallen(p, minute)) {
                    x = (x * 1103515245L + 12345) & 0x7fffffffL;
                    if ((x >> 16) % 100 < chance) {
                        struck.add(p);
                    }
                }
            }
            Oracle then = afterFall(struck, minute);
            many += (what == 0 ? then.commands(body, minute) == NONE : then.wrong(body, minute) != 0) ? 1 : 0;
        }
        return many;
    }

    int allied(int a, int b, int law, int minute) {
        if (!isBody(a) || !isBody(b) || a == b || !in(law, 0, laws.size() - 1) || !minute(minute)) {
            return -2;
        }
        int one = commands(a, minute);
        int other = commands(b, minute);
        if (one == NONE || other == NONE) {
            return Math.max(one, other);
        }
        int sign = unlike(laws.get(law), words(one, a, minute, allPapers()), words(other, b, minute, allPapers()))[1];
        if (one == other) {
            return one;
        }
        return sign == 0 ? Math.min(one, other) : sign < 0 ? one : other;
    }

    int mended(int body, int minute, int what) {
        if (!isBody(body) || !minute(minute) || !in(what, 0, 1)) {
            return -2;
        }
        int best = NONE;
        int fewest = 0;
        for (int law = 0; law < laws.size(); law++) {
            Oracle copy = copy();
            copy.rules(body, law);
            int many = copy.doubt(body, minute, 1);
            if (best == NONE || many < fewest) {
                best = law;
                fewest = many;
            }
        }
        return what == 0 ? best : fewest;
    }

    int judge(int body, int from, int to, int person) {
        if (!span(body, from, to) || !in(person, NONE, people.size() - 1)) {
            return -2;
        }
        for (int m = from; m <= to; m++) {
            if (commands(body, m) != person) {
                return m;
            }
        }
        return NONE;
    }

    int hangs(int message, int body, int minute) {
        if (!in(message, 0, messages.size() - 1) || !isBody(body) || !minute(minute)) {
            return -1000;
        }
        Oracle copy = copy();
        copy.messages.remove(message);
        return Integer.bitCount(copy.wrong(body, minute)) - Integer.bitCount(wrong(body, minute));
    }

    int mark(int k) {
        if (!in(k, 0, 3)) {
            return NONE;
        }
        marks[k] = copy();
        return people.size();
    }

    int back(int k) {
        if (!in(k, 0, 3) || marks[k] == null) {
            return NONE;
        }
        become(marks[k]);
        return people.size();
    }

    int count(int what) {
        if (!in(what, 0, 8)) {
            return NONE;
        }
        return new int[] {bodies.size(), people.size(), steps.size(), papers.size(), fallMinutes.size(), laws.size(),
            messages.size(), orders.size(), tape.length()}[what];
    }
}
