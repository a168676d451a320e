import java.util.Arrays;

/** Who commands now. The document is ../shared/DOC.md; words in capitals are its terms. */
public final class WhoCommands {
    public static final int NONE = -1;

    /** Answered for what is not there, where NONE is an answer of its own. */
    private static final int ABSENT = -2;
    private static final int NOTHING_HANGS = -1000;

    private static final int MINUTES = 2880;
    private static final int SPAN = 300;
    private static final int BODIES = 12;
    private static final int PEOPLE = 24;
    private static final int STEPS = 200;
    private static final int PAPERS = 24;
    private static final int LIST_PLACES = 8;
    private static final int MESSAGES = 200;
    private static final int ORDERS = 60;
    private static final int LAWS = 8;
    private static final int MARKS = 4;
    private static final int SERVICES = 4;
    private static final int RANKS = 10;
    private static final int DAYS = 10000;
    private static final int POSTS = 10;
    private static final int THINGS = 10;
    private static final int SPOTS = 100;
    private static final int SIGHTS = 100;
    private static final int FIRST_SIGHT = 10;
    private static final int BRIEF_MOST = 8;
    private static final int FIGHTS_MOST = 50;
    private static final int CHANCES = 100;

    private static final int TAPE_BYTES = 400;
    private static final int FED_BYTES = 20;
    private static final int CLAUSES = 12;
    private static final int DEPTH_MOST = 10;
    private static final int VALUES_MOST = 60;
    private static final int DIGITS_MOST = 4;

    private static final int ABOVE = 0;
    private static final int BODY_SERVICE = 1;
    private static final int BODY_X = 2;
    private static final int BODY_Y = 3;
    private static final int BODY_LAW = 4;
    private static final int BODY_COLUMNS = 5;

    private static final int PERSON_RANK = 0;
    private static final int PERSON_DAY = 1;
    private static final int PERSON_SERVICE = 2;
    private static final int PERSON_BODY = 3;
    private static final int PERSON_POST = 4;
    private static final int PERSON_FALL = 5;
    private static final int PERSON_COLUMNS = 6;

    private static final int STEP_PERSON = 0;
    private static final int STEP_MINUTE = 1;
    private static final int STEP_X = 2;
    private static final int STEP_Y = 3;
    private static final int STEP_COLUMNS = 4;

    private static final int PAPER_PERSON = 0;
    private static final int PAPER_BODY = 1;
    private static final int PAPER_FROM = 2;
    private static final int PAPER_TILL = 3;
    private static final int PAPER_COLUMNS = 4;

    private static final int LIST_BODY = 0;
    private static final int LIST_PERSON = 1;
    private static final int LIST_COLUMNS = 2;

    private static final int MESSAGE_IS_PAPER = 0;
    private static final int MESSAGE_OF = 1;
    private static final int MESSAGE_TO = 2;
    private static final int MESSAGE_COMES = 3;
    private static final int MESSAGE_COLUMNS = 4;

    private static final int ORDER_GIVER = 0;
    private static final int ORDER_BODY = 1;
    private static final int ORDER_THING = 2;
    private static final int ORDER_GIVEN = 3;
    private static final int ORDER_COMES = 4;
    private static final int ORDER_UNTIL = 5;
    private static final int ORDER_COLUMNS = 6;

    /** The words of LAWS; the number of each is its place in this row. */
    private static final String LAW_WORDS =
            "minute rank day service post near paper listed own depth fallen since doing list first bar lapse if and or not ";
    private static final int MINUTE = 0;
    private static final int RANK = 1;
    private static final int DAY = 2;
    private static final int SERVICE = 3;
    private static final int POST = 4;
    private static final int NEAR = 5;
    private static final int PAPER = 6;
    private static final int LISTED = 7;
    private static final int OWN = 8;
    private static final int DEPTH = 9;
    private static final int FALLEN = 10;
    private static final int SINCE = 11;
    private static final int DOING = 12;
    /** The words up to here have a value. */
    private static final int WORDS_OF_VALUE = 13;
    private static final int LIST = 13;
    private static final int FIRST = 14;
    private static final int BAR = 15;
    private static final int LAPSE = 16;
    private static final int IF = 17;
    private static final int AND = 18;
    private static final int OR = 19;
    private static final int NOT = 20;
    private static final int NUMBER = 21;
    private static final int LONG_NUMBER = 22;
    private static final int PLUS = 23;
    private static final int MINUS = 24;
    private static final int LESS = 25;
    private static final int AT_MOST = 26;
    private static final int EQUAL = 27;
    private static final int AT_LEAST = 28;
    private static final int MORE = 29;
    private static final int OPEN = 30;
    private static final int CLOSE = 31;
    private static final int SEMICOLON = 32;
    private static final int STRANGE = 33;
    private static final int END = 34;

    /** An instruction of a LAW's code is a kind, and for a NUMBER the number above these bits. */
    private static final int KIND_BITS = 6;
    private static final int KIND_MASK = 63;

    private static final int FAULT_STRANGE = 0;
    private static final int FAULT_DIGITS = 1;
    private static final int FAULT_DEEP = 2;
    private static final int FAULT_MANY = 3;
    private static final int FAULT_CLAUSE = 4;

    private static final int KEY_UNLISTED = 99;
    private static final int KEY_IF_NOT = 100000;

    private final World world = new World();
    private final World[] marks = new World[MARKS];
    private final Law[] laws = new Law[LAWS];
    private int lawCount = 0;
    private final int[] tape = new int[TAPE_BYTES];
    private int tapeSize = 0;
    private final LawReader reader = new LawReader();
    private final Facts facts = new Facts();
    private final Ranking ranking = new Ranking();
    private final Knowledge knowledge = new Knowledge();
    private final int[] ordersByThing = new int[THINGS];

    public WhoCommands() {
    }

    public int body(int above, int service, int x, int y) {
        boolean aboveIsThere = above == NONE || world.bodies.has(above);
        if (!aboveIsThere || !isIn(service, SERVICES) || !isSpot(x, y)) {
            return NONE;
        }
        int body = world.bodies.open();
        world.bodies.set(body, ABOVE, above);
        world.bodies.set(body, BODY_SERVICE, service);
        world.bodies.set(body, BODY_X, x);
        world.bodies.set(body, BODY_Y, y);
        world.bodies.set(body, BODY_LAW, NONE);
        return body;
    }

    public int person(int rank, int day, int service, int body, int post) {
        boolean asTold = isIn(rank, RANKS) && isIn(day, DAYS) && isIn(service, SERVICES) && isIn(post, POSTS);
        if (!asTold || !world.bodies.has(body)) {
            return NONE;
        }
        int person = world.people.open();
        world.people.set(person, PERSON_RANK, rank);
        world.people.set(person, PERSON_DAY, day);
        world.people.set(person, PERSON_SERVICE, service);
        world.people.set(person, PERSON_BODY, body);
        world.people.set(person, PERSON_POST, post);
        world.people.set(person, PERSON_FALL, NONE);
        return person;
    }

    public int step(int person, int minute, int x, int y) {
        if (!world.people.has(person) || !isMinute(minute) || !isSpot(x, y)) {
            return NONE;
        }
        int step = world.steps.open();
        if (step == NONE) {
            return NONE;
        }
        world.steps.set(step, STEP_PERSON, person);
        world.steps.set(step, STEP_MINUTE, minute);
        world.steps.set(step, STEP_X, x);
        world.steps.set(step, STEP_Y, y);
        return step + 1;
    }

    public int near(int person, int body, int minute) {
        if (!world.people.has(person) || !isBodyInMinute(body, minute)) {
            return NONE;
        }
        facts.gather(world, body, minute);
        return facts.get(person, NEAR);
    }

    public int paper(int person, int body, int from, int till) {
        boolean inTime = isMinute(from) && isMinute(till) && from < till;
        if (!inTime || !world.people.has(person) || !world.bodies.has(body)) {
            return NONE;
        }
        int paper = world.papers.open();
        world.papers.set(paper, PAPER_PERSON, person);
        world.papers.set(paper, PAPER_BODY, body);
        world.papers.set(paper, PAPER_FROM, from);
        world.papers.set(paper, PAPER_TILL, till);
        return paper;
    }

    public int list(int body, int person) {
        if (!world.bodies.has(body) || !world.people.has(person)) {
            return NONE;
        }
        int listed = world.placesOnList(body);
        if (listed >= LIST_PLACES || world.isOnList(body, person)) {
            return NONE;
        }
        int row = world.lists.open();
        world.lists.set(row, LIST_BODY, body);
        world.lists.set(row, LIST_PERSON, person);
        return listed + 1;
    }

    public boolean falls(int person, int minute) {
        if (!world.people.has(person) || !isMinute(minute) || world.people.get(person, PERSON_FALL) != NONE) {
            return false;
        }
        world.people.set(person, PERSON_FALL, minute);
        return true;
    }

    public int feed(int a, int b, int c, int d, int e) {
        if (tapeSize + FED_BYTES > TAPE_BYTES) {
            return NONE;
        }
        putOnTape(a);
        putOnTape(b);
        putOnTape(c);
        putOnTape(d);
        putOnTape(e);
        return tapeSize;
    }

    public int end(int n) {
        if (n < 0 || n > tapeSize) {
            return NONE;
        }
        tapeSize = n;
        return n;
    }

    public int law() {
        if (lawCount >= LAWS) {
            return NONE;
        }
        int fault = reader.read(tape, tapeSize);
        tapeSize = 0;
        if (fault != 0) {
            return -2 - fault;
        }
        laws[lawCount] = new Law(reader);
        lawCount++;
        return lawCount - 1;
    }

    public boolean rules(int body, int law) {
        if (!world.bodies.has(body) || law != NONE && !isIn(law, lawCount)) {
            return false;
        }
        world.bodies.set(body, BODY_LAW, law);
        return true;
    }

    public int may(int body, int minute) {
        if (!isBodyInMinute(body, minute)) {
            return NONE;
        }
        survey(body, minute);
        return ranking.everybody(facts.gone, facts.holders);
    }

    public int commands(int body, int minute) {
        return isBodyInMinute(body, minute) ? survey(body, minute) : ABSENT;
    }

    public int ahead(int a, int b, int body, int minute, int what) {
        boolean twoPeople = world.people.has(a) && world.people.has(b) && a != b;
        if (!twoPeople || !isBodyInMinute(body, minute) || !isIn(what, 2)) {
            return ABSENT;
        }
        Law law = lawOf(body);
        if (law == null) {
            return ABSENT;
        }
        facts.gather(world, body, minute);
        int formOfA = facts.trueForm(a);
        int formOfB = facts.trueForm(b);
        ranking.weigh(facts, law, formOfA);
        ranking.weigh(facts, law, formOfB);
        if (what == 1) {
            return ranking.decidingClause(formOfA, formOfB);
        }
        return ranking.isBefore(formOfA, formOfB) ? a : b;
    }

    public int message(boolean isPaper, int of, int to, int comes) {
        boolean subjectIsThere = isPaper ? world.papers.has(of) : world.people.has(of);
        if (!subjectIsThere || !world.people.has(to) || comes != NONE && !isMinute(comes)) {
            return NONE;
        }
        int message = world.messages.open();
        world.messages.set(message, MESSAGE_IS_PAPER, isPaper ? 1 : 0);
        world.messages.set(message, MESSAGE_OF, of);
        world.messages.set(message, MESSAGE_TO, to);
        world.messages.set(message, MESSAGE_COMES, comes);
        return message;
    }

    public int sight(int n) {
        if (!isIn(n, SIGHTS)) {
            return NONE;
        }
        int before = world.sight;
        world.sight = n;
        return before;
    }

    public int knows(int person, boolean isPaper, int of, int minute) {
        if (!world.people.has(person) || !isMinute(minute)) {
            return NONE;
        }
        boolean subjectIsThere = isPaper ? world.papers.has(of) : world.isFallen(of, minute);
        if (!subjectIsThere) {
            return NONE;
        }
        knowledge.learn(world, minute, NONE);
        boolean isKnown = isPaper ? knowledge.isPaperKnown(person, of) : knowledge.isFallKnown(person, of);
        return isKnown ? 1 : 0;
    }

    public int thinks(int person, int body, int minute) {
        if (!world.people.has(person) || !isBodyInMinute(body, minute)) {
            return ABSENT;
        }
        survey(body, minute);
        surveyMinds(body, minute, NONE);
        return ranking.inPlace(0, knowledge.fallenFor(person, 0), knowledge.holdersFor(person));
    }

    public int wrong(int body, int minute) {
        if (!isBodyInMinute(body, minute)) {
            return NONE;
        }
        survey(body, minute);
        surveyMinds(body, minute, NONE);
        return wrongAfter(0);
    }

    public int order(int giver, int body, int thing, int given, int comes, int until) {
        boolean inTime = isMinute(given) && isMinute(comes) && isMinute(until) && comes >= given && until > given;
        if (!inTime || !isIn(thing, THINGS) || !world.people.has(giver) || !world.bodies.has(body)) {
            return NONE;
        }
        int order = world.orders.open();
        world.orders.set(order, ORDER_GIVER, giver);
        world.orders.set(order, ORDER_BODY, body);
        world.orders.set(order, ORDER_THING, thing);
        world.orders.set(order, ORDER_GIVEN, given);
        world.orders.set(order, ORDER_COMES, comes);
        world.orders.set(order, ORDER_UNTIL, until);
        return order;
    }

    public int seat(int order) {
        return world.orders.has(order) ? seatOf(order) : ABSENT;
    }

    public int force(int order, int minute) {
        if (!world.orders.has(order) || !isMinute(minute)) {
            return NONE;
        }
        return isRunning(order, minute) && seatOf(order) != NONE ? 1 : 0;
    }

    public int bound(int body, int minute) {
        return isBodyInMinute(body, minute) ? bindingOrder(body, minute) : ABSENT;
    }

    public int cross(int body, int minute) {
        if (!isBodyInMinute(body, minute)) {
            return NONE;
        }
        Arrays.fill(ordersByThing, 0);
        int inForce = 0;
        int pairs = 0;
        for (int order = 0; order < world.orders.size; order++) {
            int thing = world.orders.get(order, ORDER_THING);
            boolean runs = world.orders.get(order, ORDER_BODY) == body && isRunning(order, minute);
            if (runs && isIn(thing, THINGS) && seatOf(order) != NONE) {
                pairs += inForce - ordersByThing[thing];
                ordersByThing[thing]++;
                inForce++;
            }
        }
        return pairs;
    }

    public int answers(int body, int minute, int thing) {
        if (!isBodyInMinute(body, minute) || !isIn(thing, THINGS)) {
            return ABSENT;
        }
        int order = bindingOrder(body, minute);
        if (order != NONE && world.orders.get(order, ORDER_THING) == thing) {
            return world.orders.get(order, ORDER_GIVER);
        }
        return survey(body, minute);
    }

    public int gaps(int body, int from, int to, int what) {
        if (!world.bodies.has(body) || !isSpan(from, to) || !isIn(what, 4)) {
            return ABSENT;
        }
        int many = 0;
        int row = 0;
        int longest = 0;
        int first = NONE;
        int turns = 0;
        int before = NONE;
        for (int minute = from; minute <= to; minute++) {
            int commander = survey(body, minute);
            boolean isGap = commander == NONE;
            many += isGap ? 1 : 0;
            row = isGap ? row + 1 : 0;
            longest = Math.max(longest, row);
            first = isGap && first == NONE ? minute : first;
            turns += minute > from && commander != before ? 1 : 0;
            before = commander;
        }
        switch (what) {
            case 0: return many;
            case 1: return longest;
            case 2: return first;
            default: return turns;
        }
    }

    public int doubt(int body, int minute, int what) {
        if (!isBodyInMinute(body, minute) || !isIn(what, 2)) {
            return ABSENT;
        }
        survey(body, minute);
        surveyMinds(body, minute, NONE);
        int person = worstFall();
        return what == 0 ? person : wrongAfterFallOf(person);
    }

    public int brief(int body, int minute, int many, int k) {
        if (!isBodyInMinute(body, minute) || many < 1 || many > BRIEF_MOST || !isIn(k, many)) {
            return NONE;
        }
        survey(body, minute);
        if (Integer.bitCount(ranking.everybody(facts.gone, facts.holders)) < many) {
            return ABSENT;
        }
        return ranking.inPlace(k, facts.gone, facts.holders);
    }

    public int fights(int body, int minute, int seed, int chance, int n, int what) {
        boolean asTold = seed >= 0 && chance >= 0 && chance <= CHANCES && n >= 1 && n <= FIGHTS_MOST && isIn(what, 2);
        if (!asTold || !isBodyInMinute(body, minute)) {
            return NONE;
        }
        survey(body, minute);
        surveyMinds(body, minute, NONE);
        long x = seed;
        int many = 0;
        for (int fight = 0; fight < n; fight++) {
            int struck = 0;
            for (int person = 0; person < world.people.size; person++) {
                if (!hasBit(facts.gone, person)) {
                    x = (x * 1103515245L + 12345L) % 2147483648L;
                    struck |= x / 65536L % 100L < chance ? 1 << person : 0;
                }
            }
            boolean counts = what == 0
                    ? ranking.inPlace(0, facts.gone | struck, facts.holders) == NONE
                    : wrongAfter(struck) != 0;
            many += counts ? 1 : 0;
        }
        return many;
    }

    public int allied(int a, int b, int law, int minute) {
        boolean twoBodies = world.bodies.has(a) && world.bodies.has(b) && a != b;
        if (!twoBodies || !isIn(law, lawCount) || !isMinute(minute)) {
            return ABSENT;
        }
        int ofA = survey(a, minute);
        int ofB = survey(b, minute);
        if (ofA == NONE || ofA == ofB) {
            return ofB;
        }
        if (ofB == NONE) {
            return ofA;
        }
        facts.gather(world, a, minute);
        int formOfA = facts.trueForm(ofA);
        ranking.weigh(facts, laws[law], formOfA);
        facts.gather(world, b, minute);
        int formOfB = facts.trueForm(ofB);
        ranking.weigh(facts, laws[law], formOfB);
        return ranking.isBefore(formOfA, formOfB) ? ofA : ofB;
    }

    public int mended(int body, int minute, int what) {
        if (!isBodyInMinute(body, minute) || !isIn(what, 2)) {
            return ABSENT;
        }
        facts.gather(world, body, minute);
        surveyMinds(body, minute, NONE);
        int best = NONE;
        int fewest = 0;
        for (int law = 0; law < lawCount; law++) {
            ranking.build(facts, laws[law]);
            int many = wrongAfterFallOf(worstFall());
            if (best == NONE || many < fewest) {
                best = law;
                fewest = many;
            }
        }
        return what == 0 ? best : fewest;
    }

    public int judge(int body, int from, int to, int person) {
        boolean personIsThere = person == NONE || world.people.has(person);
        if (!world.bodies.has(body) || !isSpan(from, to) || !personIsThere) {
            return ABSENT;
        }
        for (int minute = from; minute <= to; minute++) {
            if (survey(body, minute) != person) {
                return minute;
            }
        }
        return NONE;
    }

    public int hangs(int message, int body, int minute) {
        if (!world.messages.has(message) || !isBodyInMinute(body, minute)) {
            return NOTHING_HANGS;
        }
        survey(body, minute);
        surveyMinds(body, minute, NONE);
        int with = Integer.bitCount(wrongAfter(0));
        surveyMinds(body, minute, message);
        return Integer.bitCount(wrongAfter(0)) - with;
    }

    public int mark(int k) {
        if (!isIn(k, MARKS)) {
            return NONE;
        }
        if (marks[k] == null) {
            marks[k] = new World();
        }
        marks[k].become(world);
        return world.people.size;
    }

    public int back(int k) {
        if (!isIn(k, MARKS) || marks[k] == null) {
            return NONE;
        }
        world.become(marks[k]);
        return world.people.size;
    }

    public int count(int what) {
        switch (what) {
            case 0: return world.bodies.size;
            case 1: return world.people.size;
            case 2: return world.steps.size;
            case 3: return world.papers.size;
            case 4: return world.fallsTold();
            case 5: return lawCount;
            case 6: return world.messages.size;
            case 7: return world.orders.size;
            case 8: return tapeSize;
            default: return NONE;
        }
    }

    private static boolean isIn(int n, int limit) {
        return n >= 0 && n < limit;
    }

    private static boolean isMinute(int minute) {
        return isIn(minute, MINUTES);
    }

    private static boolean isSpot(int x, int y) {
        return isIn(x, SPOTS) && isIn(y, SPOTS);
    }

    private static boolean hasBit(int mask, int bit) {
        return (mask >> bit & 1) != 0;
    }

    /** The two are looked at one by one, because their difference alone could wrap around. */
    private static boolean isSpan(int from, int to) {
        return isMinute(from) && isMinute(to) && from <= to && to - from < SPAN;
    }

    private boolean isBodyInMinute(int body, int minute) {
        return world.bodies.has(body) && isMinute(minute);
    }

    private void putOnTape(int number) {
        for (int shift = 24; shift >= 0 && tapeSize < TAPE_BYTES; shift -= 8) {
            tape[tapeSize] = number >>> shift & 255;
            tapeSize++;
        }
    }

    private Law lawOf(int body) {
        int law = world.bodies.get(body, BODY_LAW);
        return isIn(law, LAWS) ? laws[law] : null;
    }

    /** Makes facts and ranking those of a BODY in a MINUTE by its own LAW; answers who COMMANDS. */
    private int survey(int body, int minute) {
        facts.gather(world, body, minute);
        ranking.build(facts, lawOf(body));
        return ranking.inPlace(0, facts.gone, facts.holders);
    }

    private void surveyMinds(int body, int minute, int leftOutMessage) {
        knowledge.learn(world, minute, leftOutMessage);
        knowledge.learnHolders(world, body, minute);
        knowledge.watch(world, minute);
    }

    /** The WRONG of what was surveyed, as bits, if those struck fell in that MINUTE, known by SIGHT alone. */
    private int wrongAfter(int struck) {
        int gone = facts.gone | struck;
        int commander = ranking.inPlace(0, gone, facts.holders);
        int wrong = 0;
        for (int person = 0; person < PEOPLE; person++) {
            if (hasBit(facts.members & ~gone, person)) {
                int thought = ranking.inPlace(
                        0, knowledge.fallenFor(person, struck), knowledge.holdersFor(person));
                wrong |= thought != commander ? 1 << person : 0;
            }
        }
        return wrong;
    }

    private int wrongAfterFallOf(int person) {
        return isIn(person, PEOPLE) ? Integer.bitCount(wrongAfter(1 << person)) : 0;
    }

    /** DOUBT of what was surveyed. */
    private int worstFall() {
        int worst = NONE;
        int most = -1;
        for (int person = 0; person < PEOPLE; person++) {
            if (hasBit(facts.members & ~facts.gone, person)) {
                int many = wrongAfterFallOf(person);
                if (many > most) {
                    worst = person;
                    most = many;
                }
            }
        }
        return worst;
    }

    private int seatOf(int order) {
        int giver = world.orders.get(order, ORDER_GIVER);
        int given = world.orders.get(order, ORDER_GIVEN);
        int body = world.orders.get(order, ORDER_BODY);
        int seat = NONE;
        for (int i = 0; i < BODIES && body != NONE; i++) {
            if (survey(body, given) == giver) {
                seat = body;
            }
            body = world.bodies.get(body, ABOVE);
        }
        return seat;
    }

    /** Whether an ORDER has come, has not ended and does not lapse; IN FORCE it is with a SEAT alone. */
    private boolean isRunning(int order, int minute) {
        if (minute < world.orders.get(order, ORDER_COMES) || minute >= world.orders.get(order, ORDER_UNTIL)) {
            return false;
        }
        int body = world.orders.get(order, ORDER_BODY);
        Law law = lawOf(body);
        if (law == null) {
            return true;
        }
        int giver = world.orders.get(order, ORDER_GIVER);
        facts.gather(world, body, minute);
        facts.set(giver, FALLEN, world.isFallen(giver, minute) ? 1 : 0);
        facts.set(giver, SINCE, minute - world.orders.get(order, ORDER_GIVEN));
        facts.set(giver, DOING, world.orders.get(order, ORDER_THING));
        return !facts.anyHolds(law, LAPSE, giver);
    }

    private int bindingOrder(int body, int minute) {
        int binding = NONE;
        int highest = NONE;
        int latest = NONE;
        for (int order = 0; order < world.orders.size; order++) {
            boolean runs = world.orders.get(order, ORDER_BODY) == body && isRunning(order, minute);
            int seat = runs ? seatOf(order) : NONE;
            int height = seat == NONE ? NONE : world.depthBelow(body, seat);
            int given = world.orders.get(order, ORDER_GIVEN);
            boolean goesBefore = height > highest || height == highest && given >= latest;
            if (seat != NONE && goesBefore) {
                binding = order;
                highest = height;
                latest = given;
            }
        }
        return binding;
    }

    /** A row of rows of numbers, of one width, that grows up to a limit. */
    private static final class Rows {
        private final int width;
        private final int most;
        private final int[] cells;
        private int size = 0;

        Rows(int width, int most) {
            this.width = Math.max(1, width);
            this.most = Math.max(0, most);
            this.cells = new int[this.width * this.most];
        }

        boolean has(int row) {
            return row >= 0 && row < size;
        }

        int get(int row, int column) {
            if (row < 0 || row >= size || column < 0 || column >= width) {
                return NONE;
            }
            return cells[row * width + column];
        }

        void set(int row, int column, int value) {
            if (row >= 0 && row < size && column >= 0 && column < width) {
                cells[row * width + column] = value;
            }
        }

        /** The number of a new row, whose cells are still to be set; NONE if there is no room. */
        int open() {
            if (size >= most) {
                return NONE;
            }
            size++;
            return size - 1;
        }

        void become(Rows other) {
            if (other.width == width && other.most == most) {
                System.arraycopy(other.cells, 0, cells, 0, other.size * width);
                size = other.size;
            }
        }
    }

    /** All that a MARK keeps. */
    private static final class World {
        private final Rows bodies = new Rows(BODY_COLUMNS, BODIES);
        private final Rows people = new Rows(PERSON_COLUMNS, PEOPLE);
        private final Rows steps = new Rows(STEP_COLUMNS, STEPS);
        private final Rows papers = new Rows(PAPER_COLUMNS, PAPERS);
        private final Rows lists = new Rows(LIST_COLUMNS, BODIES * LIST_PLACES);
        private final Rows messages = new Rows(MESSAGE_COLUMNS, MESSAGES);
        private final Rows orders = new Rows(ORDER_COLUMNS, ORDERS);
        private int sight = FIRST_SIGHT;

        void become(World other) {
            bodies.become(other.bodies);
            people.become(other.people);
            steps.become(other.steps);
            papers.become(other.papers);
            lists.become(other.lists);
            messages.become(other.messages);
            orders.become(other.orders);
            sight = other.sight;
        }

        boolean isFallen(int person, int minute) {
            int fall = people.get(person, PERSON_FALL);
            return fall != NONE && fall <= minute;
        }

        int fallsTold() {
            int told = 0;
            for (int person = 0; person < people.size; person++) {
                told += people.get(person, PERSON_FALL) != NONE ? 1 : 0;
            }
            return told;
        }

        boolean paperHolds(int paper, int body, int minute) {
            return papers.get(paper, PAPER_BODY) == body
                    && papers.get(paper, PAPER_FROM) <= minute
                    && minute < papers.get(paper, PAPER_TILL);
        }

        int placesOnList(int body) {
            int places = 0;
            for (int row = 0; row < lists.size; row++) {
                places += lists.get(row, LIST_BODY) == body ? 1 : 0;
            }
            return places;
        }

        boolean isOnList(int body, int person) {
            for (int row = 0; row < lists.size; row++) {
                if (lists.get(row, LIST_BODY) == body && lists.get(row, LIST_PERSON) == person) {
                    return true;
                }
            }
            return false;
        }

        /** How many BODIES the one lies below the other; NONE if it is neither that one nor UNDER it. */
        int depthBelow(int body, int top) {
            int at = body;
            for (int depth = 0; depth < BODIES && at != NONE; depth++) {
                if (at == top) {
                    return depth;
                }
                at = bodies.get(at, ABOVE);
            }
            return NONE;
        }
    }

    /** The PLACE of each PERSON in one MINUTE. */
    private static final class Places {
        private final int[] x = new int[PEOPLE];
        private final int[] y = new int[PEOPLE];
        private final int[] since = new int[PEOPLE];

        void find(World world, int minute) {
            for (int person = 0; person < PEOPLE; person++) {
                int body = world.people.get(person, PERSON_BODY);
                x[person] = world.bodies.get(body, BODY_X);
                y[person] = world.bodies.get(body, BODY_Y);
                since[person] = NONE;
            }
            for (int step = 0; step < world.steps.size; step++) {
                int person = world.steps.get(step, STEP_PERSON);
                int from = world.steps.get(step, STEP_MINUTE);
                if (person >= 0 && person < PEOPLE && from <= minute && from >= since[person]) {
                    x[person] = world.steps.get(step, STEP_X);
                    y[person] = world.steps.get(step, STEP_Y);
                    since[person] = from;
                }
            }
        }

        int toSpot(int person, int spotX, int spotY) {
            if (person < 0 || person >= PEOPLE) {
                return NONE;
            }
            return Math.abs(x[person] - spotX) + Math.abs(y[person] - spotY);
        }

        boolean areWithin(int a, int b, int distance) {
            if (a < 0 || a >= PEOPLE || b < 0 || b >= PEOPLE) {
                return false;
            }
            return Math.abs(x[a] - x[b]) + Math.abs(y[a] - y[b]) <= distance;
        }
    }

    /** A LAW as it was read: its CLAUSES, each with its part of the code of their TESTS. */
    private static final class Law {
        private final int[] kinds;
        private final int[] keys;
        private final int[] starts;
        private final int[] ends;
        private final int[] code;

        Law(LawReader reader) {
            kinds = Arrays.copyOf(reader.clauseKinds, reader.clauses);
            keys = Arrays.copyOf(reader.clauseKeys, reader.clauses);
            starts = Arrays.copyOf(reader.clauseStarts, reader.clauses);
            ends = Arrays.copyOf(reader.clauseEnds, reader.clauses);
            code = Arrays.copyOf(reader.code, reader.codeSize);
        }
    }

    /**
     * Reads the text of a LAW: cuts it into tokens, then goes along them once and writes the TESTS as code
     * in which each sign stands behind the two that it joins.
     */
    private static final class LawReader {
        private final int[] tokenKinds = new int[TAPE_BYTES + 1];
        private final int[] tokenPlaces = new int[TAPE_BYTES + 1];
        private final int[] tokenNumbers = new int[TAPE_BYTES + 1];
        private int tokens = 0;
        private int at = 0;
        private int values = 0;
        private int fault = 0;
        private final int[] clauseKinds = new int[CLAUSES];
        private final int[] clauseKeys = new int[CLAUSES];
        private final int[] clauseStarts = new int[CLAUSES];
        private final int[] clauseEnds = new int[CLAUSES];
        private int clauses = 0;
        private final int[] code = new int[TAPE_BYTES];
        private int codeSize = 0;

        /** The FAULT of the text; 0 without one. */
        int read(int[] text, int size) {
            cutAll(text, Math.min(size, Math.min(text.length, TAPE_BYTES)));
            at = 0;
            values = 0;
            fault = 0;
            clauses = 0;
            codeSize = 0;
            readClause();
            for (int i = 0; i < tokens && fault == 0 && kind() == SEMICOLON; i++) {
                at++;
                readClause();
            }
            if (kind() != END) {
                fail(FAULT_STRANGE);
            }
            return fault;
        }

        private void cutAll(int[] text, int size) {
            tokens = 0;
            int from = 0;
            while (from < size) {
                from = Math.max(from + 1, cut(text, from, size));
            }
            addToken(END, size, 0);
        }

        /** Cuts the token that begins at a byte; answers where the next one may begin. */
        private int cut(int[] text, int from, int size) {
            int sign = text[from];
            int end = from + 1;
            if (isLetter(sign)) {
                while (end < size && isLetter(text[end])) {
                    end++;
                }
                addToken(wordKind(text, from, end), from, 0);
            } else if (isDigit(sign)) {
                int number = sign - '0';
                while (end < size && isDigit(text[end])) {
                    number = end - from < DIGITS_MOST ? number * 10 + text[end] - '0' : 0;
                    end++;
                }
                addToken(end - from > DIGITS_MOST ? LONG_NUMBER : NUMBER, from, number);
            } else if (sign != ' ') {
                boolean isWide = (sign == '<' || sign == '>') && end < size && text[end] == '=';
                addToken(isWide ? wideSignKind(sign) : signKind(sign), from, 0);
                end = isWide ? end + 1 : end;
            }
            return end;
        }

        private void addToken(int kind, int place, int number) {
            if (tokens < tokenKinds.length) {
                tokenKinds[tokens] = kind;
                tokenPlaces[tokens] = place;
                tokenNumbers[tokens] = number;
                tokens++;
            }
        }

        private static boolean isLetter(int sign) {
            return sign >= 'a' && sign <= 'z';
        }

        private static boolean isDigit(int sign) {
            return sign >= '0' && sign <= '9';
        }

        private static int wideSignKind(int sign) {
            return sign == '<' ? AT_MOST : AT_LEAST;
        }

        private static int signKind(int sign) {
            switch (sign) {
                case '+': return PLUS;
                case '-': return MINUS;
                case '<': return LESS;
                case '=': return EQUAL;
                case '>': return MORE;
                case '[': return OPEN;
                case ']': return CLOSE;
                case ';': return SEMICOLON;
                default: return STRANGE;
            }
        }

        private static int wordKind(int[] text, int from, int end) {
            int number = 0;
            int at = from;
            boolean isSame = true;
            for (int i = 0; i < LAW_WORDS.length(); i++) {
                char sign = LAW_WORDS.charAt(i);
                if (sign != ' ') {
                    isSame = isSame && at < end && at < text.length && text[at] == sign;
                    at++;
                } else if (isSame && at == end) {
                    return number;
                } else {
                    number++;
                    at = from;
                    isSame = true;
                }
            }
            return STRANGE;
        }

        private int kind() {
            return at < tokens ? tokenKinds[at] : END;
        }

        /** A FAULT at the token that stands next; an earlier one stays. */
        private void fail(int kindOfFault) {
            if (fault == 0 && at < tokens) {
                fault = 1 + 8 * tokenPlaces[at] + kindOfFault;
            }
        }

        private void emit(int instruction) {
            if (codeSize < code.length) {
                code[codeSize] = instruction;
                codeSize++;
            }
        }

        private void readClause() {
            int kind = kind();
            if (kind != FIRST && kind != BAR && kind != LAPSE) {
                fail(FAULT_STRANGE);
                return;
            }
            if (clauses >= CLAUSES) {
                fail(FAULT_CLAUSE);
                return;
            }
            at++;
            clauseKinds[clauses] = kind;
            clauseKeys[clauses] = kind();
            clauseStarts[clauses] = codeSize;
            if (kind != FIRST || takeKeyAndIf()) {
                readTest(0);
            }
            clauseEnds[clauses] = codeSize;
            clauses++;
        }

        /** Goes past the KEY and the word if; answers whether that stood there, so that a TEST follows. */
        private boolean takeKeyAndIf() {
            if (!isKey(kind())) {
                fail(FAULT_STRANGE);
                return false;
            }
            at++;
            boolean hasTest = kind() == IF;
            at += hasTest ? 1 : 0;
            return hasTest;
        }

        private static boolean isKey(int kind) {
            switch (kind) {
                case PAPER:
                case LIST:
                case POST:
                case RANK:
                case DAY:
                case NEAR:
                case OWN:
                    return true;
                default:
                    return false;
            }
        }

        private void readTest(int depth) {
            boolean orWaits = false;
            for (int i = 0; i < tokens && fault == 0; i++) {
                readFact(depth);
                for (int j = 0; j < tokens && fault == 0 && kind() == AND; j++) {
                    at++;
                    readFact(depth);
                    emit(AND);
                }
                if (orWaits) {
                    emit(OR);
                }
                if (fault != 0 || kind() != OR) {
                    return;
                }
                at++;
                orWaits = true;
            }
        }

        private void readFact(int depth) {
            int kind = kind();
            if (kind != NOT && kind != OPEN) {
                readSum();
                int sign = takeSign();
                readSum();
                emit(sign);
            } else if (depth >= DEPTH_MOST) {
                fail(FAULT_DEEP);
            } else if (kind == NOT) {
                at++;
                readFact(depth + 1);
                emit(NOT);
            } else {
                at++;
                readTest(depth + 1);
                if (kind() != CLOSE) {
                    fail(FAULT_STRANGE);
                }
                at += fault == 0 ? 1 : 0;
            }
        }

        private int takeSign() {
            int sign = kind();
            if (sign < LESS || sign > MORE) {
                fail(FAULT_STRANGE);
            } else if (values >= VALUES_MOST) {
                fail(FAULT_MANY);
            } else {
                values++;
                at++;
            }
            return sign;
        }

        private void readSum() {
            if (fault != 0) {
                return;
            }
            readValue();
            for (int i = 0; i < tokens && fault == 0 && (kind() == PLUS || kind() == MINUS); i++) {
                int sign = kind();
                at++;
                readValue();
                emit(sign);
            }
        }

        private void readValue() {
            int kind = kind();
            if (kind == LONG_NUMBER) {
                fail(FAULT_DIGITS);
            } else if (kind != NUMBER && kind >= WORDS_OF_VALUE) {
                fail(FAULT_STRANGE);
            } else if (values >= VALUES_MOST) {
                fail(FAULT_MANY);
            } else if (at < tokens) {
                emit(kind + (tokenNumbers[at] << KIND_BITS));
                values++;
                at++;
            }
        }
    }

    /** What the WORDS say of each PERSON, for one BODY in one MINUTE. */
    private static final class Facts {
        private final Places places = new Places();
        private final int[] cells = new int[PEOPLE * WORDS_OF_VALUE];
        private final int[] stack = new int[VALUES_MOST];
        /** As bits: who stands in the BODY or UNDER it, who has a PAPER for it that holds, who is FALLEN. */
        private int members = 0;
        private int holders = 0;
        private int gone = 0;

        void gather(World world, int body, int minute) {
            Arrays.fill(cells, 0);
            members = 0;
            gone = 0;
            places.find(world, minute);
            for (int person = 0; person < world.people.size; person++) {
                gatherOne(world, person, body, minute);
            }
            gatherList(world, body);
            gatherPapers(world, body, minute);
        }

        private void gatherOne(World world, int person, int body, int minute) {
            int service = world.people.get(person, PERSON_SERVICE);
            int depth = world.depthBelow(world.people.get(person, PERSON_BODY), body);
            set(person, MINUTE, minute);
            set(person, RANK, world.people.get(person, PERSON_RANK));
            set(person, DAY, world.people.get(person, PERSON_DAY));
            set(person, SERVICE, service);
            set(person, POST, world.people.get(person, PERSON_POST));
            set(person, NEAR, places.toSpot(
                    person, world.bodies.get(body, BODY_X), world.bodies.get(body, BODY_Y)));
            set(person, OWN, service == world.bodies.get(body, BODY_SERVICE) ? 1 : 0);
            set(person, DEPTH, Math.max(0, depth));
            members |= depth != NONE ? 1 << person : 0;
            gone |= world.isFallen(person, minute) ? 1 << person : 0;
        }

        private void gatherList(World world, int body) {
            int place = 0;
            for (int row = 0; row < world.lists.size; row++) {
                if (world.lists.get(row, LIST_BODY) == body) {
                    place++;
                    set(world.lists.get(row, LIST_PERSON), LISTED, place);
                }
            }
        }

        private void gatherPapers(World world, int body, int minute) {
            holders = 0;
            for (int paper = 0; paper < world.papers.size; paper++) {
                if (world.paperHolds(paper, body, minute)) {
                    int person = world.papers.get(paper, PAPER_PERSON);
                    set(person, PAPER, 1);
                    holders |= 1 << person;
                }
            }
        }

        int get(int person, int word) {
            if (person < 0 || person >= PEOPLE || word < 0 || word >= WORDS_OF_VALUE) {
                return 0;
            }
            return cells[person * WORDS_OF_VALUE + word];
        }

        void set(int person, int word, int value) {
            if (person >= 0 && person < PEOPLE && word >= 0 && word < WORDS_OF_VALUE) {
                cells[person * WORDS_OF_VALUE + word] = value;
            }
        }

        /** The form (see Ranking) in which a PERSON truly is. */
        int trueForm(int person) {
            return 2 * person + (hasBit(holders, person) ? 1 : 0);
        }

        boolean anyHolds(Law law, int kind, int person) {
            for (int clause = 0; clause < law.kinds.length; clause++) {
                if (law.kinds[clause] == kind && holds(law, clause, person)) {
                    return true;
                }
            }
            return false;
        }

        /** Whether the TEST of a CLAUSE holds of a PERSON; one without a TEST does. */
        boolean holds(Law law, int clause, int person) {
            if (clause < 0 || clause >= law.starts.length) {
                return false;
            }
            int top = 0;
            for (int i = law.starts[clause]; i < law.ends[clause] && i < law.code.length; i++) {
                int kind = law.code[i] & KIND_MASK;
                if (kind == NOT) {
                    if (top > 0 && top <= stack.length) {
                        stack[top - 1] = 1 - stack[top - 1];
                    }
                } else if (kind < WORDS_OF_VALUE || kind == NUMBER) {
                    if (top < stack.length) {
                        stack[top] = kind == NUMBER ? law.code[i] >> KIND_BITS : get(person, kind);
                        top++;
                    }
                } else if (top > 1 && top <= stack.length) {
                    top--;
                    stack[top - 1] = joined(kind, stack[top - 1], stack[top]);
                }
            }
            return top == 0 || stack[0] != 0;
        }

        private static int joined(int kind, int a, int b) {
            switch (kind) {
                case PLUS: return a + b;
                case MINUS: return a - b;
                case LESS: return a < b ? 1 : 0;
                case AT_MOST: return a <= b ? 1 : 0;
                case EQUAL: return a == b ? 1 : 0;
                case AT_LEAST: return a >= b ? 1 : 0;
                case MORE: return a > b ? 1 : 0;
                case AND: return a & b;
                default: return a | b;
            }
        }

        /** What a PERSON has by a KEY; the least goes AHEAD. */
        int keyValue(int key, int person) {
            switch (key) {
                case PAPER: return 1 - get(person, PAPER);
                case LIST: return get(person, LISTED) == 0 ? KEY_UNLISTED : get(person, LISTED);
                case RANK: return RANKS - 1 - get(person, RANK);
                case OWN: return 1 - get(person, OWN);
                default: return get(person, key);
            }
        }
    }

    /**
     * Those whom a LAW does not bar, each AHEAD of the next. Who thinks of a PERSON may not know of his PAPER;
     * so a PERSON stands here in two forms, 2 * his number without a PAPER and that + 1 with one (if there is one).
     */
    private static final class Ranking {
        private final int[] forms = new int[2 * PEOPLE];
        private final int[] keys = new int[2 * PEOPLE * CLAUSES];
        private int size = 0;
        private int clauses = 0;

        /** Without a LAW there is nobody. */
        void build(Facts facts, Law law) {
            size = 0;
            for (int form = 0; form < 2 * PEOPLE && law != null; form++) {
                int person = form >> 1;
                int there = (form & 1) == 0 ? facts.members : facts.members & facts.holders;
                if (hasBit(there, person)) {
                    facts.set(person, PAPER, form & 1);
                    if (!facts.anyHolds(law, BAR, person)) {
                        weigh(facts, law, form);
                        insert(form);
                    }
                }
            }
        }

        /** Keeps what a PERSON in a form has by each KEY of a LAW. */
        void weigh(Facts facts, Law law, int form) {
            if (law == null || form < 0 || form >= 2 * PEOPLE) {
                return;
            }
            clauses = Math.min(law.kinds.length, CLAUSES);
            int person = form >> 1;
            for (int clause = 0; clause < clauses; clause++) {
                int value = 0;
                if (law.kinds[clause] == FIRST) {
                    value = facts.holds(law, clause, person)
                            ? facts.keyValue(law.keys[clause], person) : KEY_IF_NOT;
                }
                keys[form * CLAUSES + clause] = value;
            }
        }

        private void insert(int form) {
            if (size >= forms.length) {
                return;
            }
            int place = size;
            while (place > 0 && isBefore(form, forms[place - 1])) {
                forms[place] = forms[place - 1];
                place--;
            }
            forms[place] = form;
            size++;
        }

        /** The first CLAUSE by which two weighed forms are unlike; NONE without one. */
        int decidingClause(int a, int b) {
            if (a < 0 || a >= 2 * PEOPLE || b < 0 || b >= 2 * PEOPLE) {
                return NONE;
            }
            for (int clause = 0; clause < clauses && clause < CLAUSES; clause++) {
                if (keys[a * CLAUSES + clause] != keys[b * CLAUSES + clause]) {
                    return clause;
                }
            }
            return NONE;
        }

        boolean isBefore(int a, int b) {
            int clause = decidingClause(a, b);
            if (clause == NONE) {
                return a < b;
            }
            return keys[a * CLAUSES + clause] < keys[b * CLAUSES + clause];
        }

        /** Who stands at a place (from 0 on), if these are gone and those have a PAPER; NONE without him. */
        int inPlace(int place, int gone, int holders) {
            int passed = 0;
            for (int i = 0; i < size && i < forms.length; i++) {
                if (fits(forms[i], gone, holders)) {
                    if (passed == place) {
                        return forms[i] >> 1;
                    }
                    passed++;
                }
            }
            return NONE;
        }

        int everybody(int gone, int holders) {
            int mask = 0;
            for (int i = 0; i < size && i < forms.length; i++) {
                mask |= fits(forms[i], gone, holders) ? 1 << (forms[i] >> 1) : 0;
            }
            return mask;
        }

        private static boolean fits(int form, int gone, int holders) {
            int person = form >> 1;
            return !hasBit(gone, person) && hasBit(holders, person) == ((form & 1) == 1);
        }
    }

    /** What each PERSON KNOWS in one MINUTE, as bits. */
    private static final class Knowledge {
        private final Places places = new Places();
        private final int[] falls = new int[PEOPLE];
        private final int[] papers = new int[PEOPLE];
        private final int[] holders = new int[PEOPLE];
        private final int[] seen = new int[PEOPLE];

        /** All that is KNOWN, as if a MESSAGE (NONE: none) had never been. */
        void learn(World world, int minute, int leftOutMessage) {
            Arrays.fill(falls, 0);
            Arrays.fill(papers, 0);
            for (int fallen = 0; fallen < world.people.size; fallen++) {
                if (world.isFallen(fallen, minute)) {
                    witness(world, fallen);
                }
            }
            for (int paper = 0; paper < world.papers.size; paper++) {
                note(papers, world.papers.get(paper, PAPER_PERSON), paper);
            }
            for (int message = 0; message < world.messages.size; message++) {
                int comes = world.messages.get(message, MESSAGE_COMES);
                if (message != leftOutMessage && comes != NONE && comes <= minute) {
                    hear(world, message, minute);
                }
            }
        }

        private void witness(World world, int fallen) {
            places.find(world, world.people.get(fallen, PERSON_FALL));
            for (int person = 0; person < world.people.size; person++) {
                if (person == fallen || places.areWithin(person, fallen, world.sight)) {
                    note(falls, person, fallen);
                }
            }
        }

        private void hear(World world, int message, int minute) {
            int of = world.messages.get(message, MESSAGE_OF);
            int to = world.messages.get(message, MESSAGE_TO);
            if (world.messages.get(message, MESSAGE_IS_PAPER) == 1) {
                note(papers, to, of);
            } else if (world.isFallen(of, minute)) {
                note(falls, to, of);
            }
        }

        private static void note(int[] masks, int person, int bit) {
            if (person >= 0 && person < masks.length) {
                masks[person] |= 1 << bit;
            }
        }

        /** Who has a PAPER for a BODY by what each has learnt. */
        void learnHolders(World world, int body, int minute) {
            Arrays.fill(holders, 0);
            for (int paper = 0; paper < world.papers.size; paper++) {
                if (world.paperHolds(paper, body, minute)) {
                    for (int person = 0; person < PEOPLE; person++) {
                        if (hasBit(papers[person], paper)) {
                            note(holders, person, world.papers.get(paper, PAPER_PERSON));
                        }
                    }
                }
            }
        }

        /** Whose fall in the MINUTE itself each would see. */
        void watch(World world, int minute) {
            Arrays.fill(seen, 0);
            places.find(world, minute);
            for (int person = 0; person < world.people.size; person++) {
                for (int other = 0; other < world.people.size; other++) {
                    if (person == other || places.areWithin(person, other, world.sight)) {
                        note(seen, person, other);
                    }
                }
            }
        }

        boolean isFallKnown(int person, int fallen) {
            return person >= 0 && person < PEOPLE && hasBit(falls[person], fallen);
        }

        boolean isPaperKnown(int person, int paper) {
            return person >= 0 && person < PEOPLE && hasBit(papers[person], paper);
        }

        /** Whom a PERSON takes for FALLEN, if those struck fell in the MINUTE. */
        int fallenFor(int person, int struck) {
            return person >= 0 && person < PEOPLE ? falls[person] | struck & seen[person] : 0;
        }

        int holdersFor(int person) {
            return person >= 0 && person < PEOPLE ? holders[person] : 0;
        }
    }
}
