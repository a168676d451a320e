import java.util.Arrays;
import java.util.Locale;

/** Terms, part II, as far as it tells the language of LAWS, and promises 9 to 12. */
final class EdgesOfLaws {
    private static final int NONE = WhoCommands.NONE;
    private static final String[] KEYS = {"paper", "list", "post", "rank", "day", "near", "own"};
    private static final String[] WORDS = {"minute", "rank", "day", "service", "post", "near", "paper", "listed",
        "own", "depth", "fallen", "since", "doing"};
    private static final String TWELVE = "first own" + ";first own".repeat(11);
    /** Fifty VALUES, of 99 bytes. */
    private static final String FIFTY = "1" + "+1".repeat(49);

    private final Edges edges;

    EdgesOfLaws(Edges edges) {
        this.edges = edges;
    }

    void all() {
        feed();
        end();
        law();
        texts();
        clauses();
        clauseForms();
        keys();
        ors();
        ands();
        facts();
        signs();
        sums();
        values();
        words();
        wordsOfPerson();
        paperAndListed();
        ownAndDepth();
        blanks();
        depths();
        counts();
        strangeThings();
        theEnd();
        longNumbers();
        tooDeep();
        tooMany();
        thirteenth();
        leastOfOnePlace();
        firstAlongText();
        rules();
    }

    private static int read(String text) {
        return Check.law(new WhoCommands(), text);
    }

    private void good(String text) {
        edges.due("law of '" + text + "'", read(text), 0);
    }

    private void fault(String text, int place, int kind) {
        edges.due("law of '" + text + "'", read(text), Check.fault(place, kind));
    }

    /** Whether a TEST holds of person 0 of an object for body 0, in a MINUTE. */
    private void holds(Edges.Telling told, int minute, String test, boolean want) {
        WhoCommands x = new WhoCommands();
        told.to(x);
        int law = Check.law(x, "bar " + test);
        x.rules(0, law);
        edges.due("'" + test + "' holds", (x.may(0, minute) & 1) == 0, want);
    }

    private void holds(String test, boolean want) {
        holds(Worlds::one, 0, test, want);
    }

    private void feed() {
        edges.promise(9, "Twenty bytes come behind the TAPE, of each number the highest first: how many it has;");
        edges.in(Worlds::nothing);
        edges.takes("the first twenty", 20, x -> x.feed(0, 0, 0, 0, 0));
        edges.takes("the least and the greatest numbers", 20, x ->
                x.feed(Integer.MIN_VALUE, Integer.MAX_VALUE, -1, 1, 0));
        WhoCommands x = new WhoCommands();
        x.feed(0x66697273, 0x74206e65, 0x61723b66, 0x69727374, 0x20646179);
        edges.due("'first near;first day', its bytes in their order", x.law(), 0);
        x.feed(0x66697273, 0x74207261, 0x6e6b2020, 0x20202020, 0x20202020);
        x.end(10);
        x.feed(0x3b6f776e, 0x20202020, 0x20202020, 0x20202020, 0x20202020);
        edges.due("what comes behind the tenth byte", x.law(), Check.fault(11, 0));
        x.feed(0x66697273, 0x74207261, 0x6e6b2020, 0x20202020, 0x202020ff);
        edges.due("the last of twenty bytes", x.law(), Check.fault(19, 0));
        x.feed(0xff697273, 0x74207261, 0x6e6b2020, 0x20202020, 0x20202020);
        edges.due("the first of twenty bytes, above 127", x.law(), Check.fault(0, 0));

        edges.promise(9, "NONE, and none comes, if it would have more than 400.");
        WhoCommands y = new WhoCommands();
        for (int n = 1; n <= 20; n++) {
            edges.due("feed " + n, y.feed(0, 0, 0, 0, 0), 20 * n);
        }
        edges.due("the twenty-first", y.feed(0, 0, 0, 0, 0), NONE);
        edges.due("so many as ahead of it", y.count(8), 400);
        edges.in(Worlds::fullTape);
        edges.leaves("twenty bytes more than 400", NONE, z -> z.feed(0, 0, 0, 0, 0));
        edges.in(EdgesOfLaws::tapeOf381);
        edges.leaves("one byte more than 400", NONE, z -> z.feed(0x20202020, 0x20202020, 0x20202020, 0, 0));
        edges.in(EdgesOfLaws::tapeOf380);
        edges.takes("just 400", 400, z -> z.feed(0, 0, 0, 0, 0));
    }

    private static void tapeOf381(WhoCommands x) {
        Worlds.fullTape(x);
        x.end(381);
    }

    private static void tapeOf380(WhoCommands x) {
        Worlds.fullTape(x);
        x.end(380);
    }

    private void end() {
        edges.promise(10, "The TAPE has its first n bytes alone: n;");
        WhoCommands x = new WhoCommands();
        Worlds.fullTape(x);
        edges.due("all of them", x.end(400), 400);
        edges.due("all but one", x.end(399), 399);
        edges.due("the ninth alone and those ahead of it", x.end(9), 9);
        edges.due("they are 'first own'", x.law(), 1);
        Check.tape(x, "first own");
        edges.due("one byte less", x.end(8), 8);
        edges.due("they are 'first ow'", x.law(), Check.fault(6, 0));
        Check.tape(x, "first owner");
        edges.due("a word is cut", x.end(9), 9);
        edges.due("what was behind it is gone", x.law(), 2);
        Check.tape(x, "bar 1=12345");
        edges.due("a number is cut", x.end(10), 10);
        edges.due("its fifth digit is gone", x.law(), 3);
        Check.tape(x, "first own;first own");
        edges.due("a clause is cut", x.end(10), 10);
        edges.due("its end is that of the text", x.law(), Check.fault(10, 0));
        Check.tape(x, "first own");
        edges.due("none", x.end(0), 0);
        edges.due("none is left", x.count(8), 0);
        edges.due("none of none", x.end(0), 0);

        edges.promise(10, "NONE, and nothing happens, if it has not so many, or n is below 0.");
        edges.in(Worlds::rich);
        edges.beyond("end of twenty bytes at", 0, 20, NONE, (y, n) -> y.end(n));
        edges.in(Worlds::nothing);
        edges.beyond("end of no bytes at", 0, 0, NONE, (y, n) -> y.end(n));
        edges.in(Worlds::fullTape);
        edges.beyond("end of 400 bytes at", 0, 400, NONE, (y, n) -> y.end(n));
    }

    private void law() {
        edges.promise(11, "The TAPE, which is empty then, is a LAW: its number;");
        WhoCommands x = new WhoCommands();
        for (int n = 0; n < 8; n++) {
            edges.due("law " + n, Check.law(x, "first own"), n);
            edges.due("bytes behind law " + n, x.count(8), 0);
            edges.due("laws with law " + n, x.count(5), n + 1);
        }

        edges.promise(11, "-2 - its FAULT;");
        WhoCommands y = new WhoCommands();
        edges.due("the least fault", Check.law(y, "?"), -3);
        edges.due("the greatest place", Check.law(y, "bar" + " ".repeat(397)), -2 - 3201);
        Check.tape(y, "first nothing");
        edges.due("a fault", y.law(), Check.fault(6, 0));
        edges.due("the tape is empty then, too", y.count(8), 0);
        edges.due("no law is told by it", y.count(5), 0);
        edges.due("the next law has the next number", Check.law(y, "first own"), 0);

        edges.promise(11, "NONE, and nothing happens: there are 8.");
        edges.in(Worlds::allLaws);
        edges.leaves("a ninth law", NONE, z -> z.law());
        edges.in(EdgesOfLaws::eightAndFault);
        edges.leaves("a ninth law that has a fault", NONE, z -> z.law());
        edges.in(EdgesOfLaws::eightAndNothing);
        edges.leaves("a ninth law of nothing", NONE, z -> z.law());
    }

    private static void eightAndFault(WhoCommands x) {
        Worlds.allLaws(x);
        x.end(3);
    }

    private static void eightAndNothing(WhoCommands x) {
        Worlds.allLaws(x);
        x.end(0);
    }

    private void texts() {
        edges.term("LAWS 0 to 7: texts of at most 400 bytes.");
        good("first own");
        good("first own" + " ".repeat(391));
        good(" ".repeat(391) + "first own");
        good("bar 1<" + " ".repeat(390) + "9999");
        WhoCommands x = new WhoCommands();
        Worlds.allLaws(x);
        edges.due("law 7 is there", x.rules(0, 7), true);
        edges.due("and it is by day", x.commands(0, 0), 0);
        edges.due("law 6 is there", x.rules(0, 6), true);
        edges.due("and it is by rank", x.commands(0, 0), 1);
        edges.due("law 8 is not there", x.rules(0, 8), false);
    }

    private void clauses() {
        edges.term("CLAUSE { ; CLAUSE }, 12 at most.");
        good("first own");
        good("first own;first own");
        good(TWELVE);
        good("bar 1=1" + ";lapse 1=1".repeat(11));
        fault(TWELVE + ";first own", 120, 4);
        fault("", 0, 0);
        fault(";", 0, 0);
        fault("first own;", 10, 0);
        fault("first own;;first own", 10, 0);
        fault("first own first own", 10, 0);
        fault("first own;own", 10, 0);
        WhoCommands x = new WhoCommands();
        Worlds.one(x);
        x.person(9, 0, 0, 0, 0);
        Check.law(x, "first own" + ";first own".repeat(10) + ";first rank");
        x.rules(0, 1);
        edges.due("by the twelfth", x.ahead(0, 1, 0, 0, 0), 1);
        edges.due("the twelfth is 11", x.ahead(0, 1, 0, 0, 1), 11);
        Check.law(x, "first own" + ";first own".repeat(10) + ";bar rank = 9");
        x.rules(0, 2);
        edges.due("the twelfth bars", x.may(0, 0), 1);
    }

    private void clauseForms() {
        edges.term("CLAUSE: first KEY [ if TEST ] | bar TEST | lapse TEST.");
        good("first rank");
        good("first rank if 1=1");
        good("bar 1=1");
        good("lapse 1=1");
        fault("first", 5, 0);
        fault("first if 1=1", 6, 0);
        fault("first rank if", 13, 0);
        fault("first rank 1=1", 11, 0);
        fault("first rank if 1=1 if 1=1", 18, 0);
        fault("first rank day", 11, 0);
        fault("first bar", 6, 0);
        fault("bar", 3, 0);
        fault("bar if 1=1", 4, 0);
        fault("bar rank if 1=1", 9, 0);
        fault("lapse", 5, 0);
        fault("lapse bar 1=1", 6, 0);
        fault("if 1=1", 0, 0);
        fault("rank", 0, 0);
    }

    private static boolean isOneOf(String[] all, String word) {
        return Arrays.asList(all).contains(word);
    }

    private void keys() {
        edges.term("KEY: paper, list, post, rank, day, near, own.");
        for (String key : KEYS) {
            good("first " + key);
            good("first " + key + " if 1=1");
            fault("first " + key + "s", 6, 0);
            fault("first " + key.substring(0, key.length() - 1), 6, 0);
        }
        for (String word : WORDS) {
            if (!isOneOf(KEYS, word)) {
                fault("first " + word, 6, 0);
            }
        }
        fault("first 1", 6, 0);
    }

    private void ors() {
        edges.term("TEST: PART { or PART }.");
        holds("1=2 or 1=2", false);
        holds("1=1 or 1=2", true);
        holds("1=2 or 1=1", true);
        holds("1=2 or 1=2 or 1=1", true);
        holds("1=2 or 1=2 and 1=1", false);
        holds("1=1 or 1=2 and 1=2", true);
        fault("bar or 1=1", 4, 0);
        fault("bar 1=1 or", 10, 0);
        fault("bar 1=1 or or 1=1", 11, 0);
    }

    private void ands() {
        edges.term("PART: FACT { and FACT }.");
        holds("1=1 and 1=1", true);
        holds("1=1 and 1=2", false);
        holds("1=2 and 1=1", false);
        holds("1=1 and 1=1 and 1=2", false);
        holds("1=2 and 1=2 or 1=1", true);
        fault("bar and 1=1", 4, 0);
        fault("bar 1=1 and", 11, 0);
        fault("bar 1=1 and and 1=1", 12, 0);
    }

    private void facts() {
        edges.term("FACT: not FACT | [ TEST ] (these brackets are signs) | SUM SIGN SUM,");
        holds("not 1=1", false);
        holds("not 1=2", true);
        holds("not not 1=1", true);
        holds("[1=1]", true);
        holds("not [1=1 or 1=2]", false);
        holds("not 1=1 or 1=1", true);
        holds("not 1=2 and 1=2", false);
        holds("[1=2 or 1=1] and [1=1 or 1=2]", true);
        holds("1=1 or [1=1 or 1=1] and 1=2", true);
        fault("bar not", 7, 0);
        fault("bar not and 1=1", 8, 0);
        fault("bar []", 5, 0);
        fault("bar [1=1", 8, 0);
        fault("bar 1=1]", 7, 0);
        fault("bar [1=1]]", 9, 0);
        fault("bar [1=1 1=1]", 9, 0);
        fault("bar [1]=1", 6, 0);
        fault("bar 1", 5, 0);
        fault("bar 1=", 6, 0);
        fault("bar =1", 4, 0);
        fault("bar 1=1=1", 7, 0);
        fault("bar 1=[1=1]", 6, 0);
        fault("bar 1=not 1=1", 6, 0);
        fault("bar (1=1)", 4, 0);
    }

    private void signs() {
        edges.term("SIGN one of < <= = >= >.");
        String[] all = {"<", "<=", "=", ">=", ">"};
        boolean[][] want = {{true, false, false}, {true, true, false}, {false, true, false}, {false, true, true},
            {false, false, true}};
        for (int sign = 0; sign < all.length; sign++) {
            for (int left = 4; left <= 6; left++) {
                boolean holds = want[sign][left - 4];
                String fact = left + all[sign] + "5";
                holds(fact, holds);
                holds("not " + fact, !holds);
                holds(fact + " and 1=1", holds);
                holds("1=1 and " + fact, holds);
                holds(fact + " or 1=2", holds);
                holds("1=2 or " + fact, holds);
            }
        }
        fault("bar 1==1", 6, 0);
        fault("bar 1=<1", 6, 0);
        fault("bar 1=>1", 6, 0);
        fault("bar 1<>1", 6, 0);
        fault("bar 1<==1", 7, 0);
        fault("bar 1!=1", 5, 0);
        fault("bar 1 1", 6, 0);
        fault("bar 1< =1", 7, 0);
        fault("bar 1> =1", 7, 0);
    }

    private void sums() {
        edges.term("SUM: VALUE { (+ or -) VALUE }.");
        holds("1+2=3", true);
        holds("1-2<0", true);
        holds("0=2-1-1", true);
        holds("5-2+1=4", true);
        holds("5-1-2-2=0", true);
        holds("1-9999+9999-1=0", true);
        holds("rank-1<0", true);
        fault("bar +1=1", 4, 0);
        fault("bar -1=1", 4, 0);
        fault("bar 1+=1", 6, 0);
        fault("bar 1++1=1", 6, 0);
        fault("bar 1+-1=1", 6, 0);
        fault("bar 1=1+", 8, 0);
        fault("bar 1=1-;first own", 8, 0);
        fault("bar 1*1=1", 5, 0);
    }

    private void values() {
        edges.term("VALUE: NUMBER (1 to 4 digits, as far as digits go on) | WORD.");
        holds("0=0", true);
        holds("9=9", true);
        holds("9999=9999", true);
        holds("9999=9998", false);
        holds("1000>999", true);
        holds("0007=7", true);
        holds("0000=0", true);
        fault("bar 00000=0", 4, 1);
        fault("bar 10000=0", 4, 1);
        fault("bar 0=00000", 6, 1);
        good("bar 1234=1and 1=1");
        fault("bar 1rank=1", 5, 0);
        fault("bar rank1=1", 8, 0);
        fault("bar 1 2=1", 6, 0);
    }

    private void words() {
        edges.term("WORDS (small letters, as far as these go on), of a PERSON, a BODY and a MINUTE:");
        for (String word : WORDS) {
            good("bar " + word + "=" + word);
            fault("bar " + word + "s=1", 4, 0);
            fault("bar " + word.substring(0, word.length() - 1) + "=1", 4, 0);
            fault("bar 1=" + word.toUpperCase(Locale.ROOT), 6, 0);
        }
        for (String word : new String[] {"list", "first", "bar", "lapse", "if", "and", "or", "a", "z", "body"}) {
            fault("bar " + word + "=1", 4, 0);
        }
        fault("bar rAnk=1", 4, 0);
        fault("bar rank" + (char) ('a' - 1) + "=1", 8, 0);
        fault("bar rank" + (char) ('z' + 1) + "=1", 8, 0);
        fault("bar ranka=1", 4, 0);
        fault("bar rankz=1", 4, 0);
        fault("bar arank=1", 4, 0);
        fault("bar zrank=1", 4, 0);
        fault("first ownz", 6, 0);
        fault("firstz own", 0, 0);
        fault("bar rankrank=1", 4, 0);
        fault("firstown", 0, 0);
        fault("barrank=1", 0, 0);
        fault("first rankif 1=1", 6, 0);
        fault("bar notrank=1", 4, 0);
    }

    /** One of rank 9, day 9999, service 3, post 9 in the body at 0, 0 of that service, from minute 5 on at 99, 99. */
    private static void great(WhoCommands x) {
        x.body(NONE, 3, 0, 0);
        x.person(9, 9999, 3, 0, 9);
        x.step(0, 5, 99, 99);
    }

    private void wordsOfPerson() {
        edges.term("minute, rank, day, service, post, near,");
        holds("minute = 0", true);
        holds(Worlds::one, 2879, "minute = 2879", true);
        holds(Worlds::one, 2878, "minute = 2879", false);
        holds("rank + day + service + post + near = 0", true);
        holds(EdgesOfLaws::great, 0, "rank = 9 and day = 9999 and service = 3 and post = 9", true);
        holds(EdgesOfLaws::great, 4, "near = 0", true);
        holds(EdgesOfLaws::great, 5, "near = 198", true);
    }

    /** The last of a full list, with a paper for the body from 10 till 20 and one for another body. */
    private static void lastOfList(WhoCommands x) {
        x.body(NONE, 0, 0, 0);
        x.body(0, 0, 0, 0);
        for (int n = 0; n < 9; n++) {
            x.person(0, 0, 0, 0, 0);
        }
        for (int n = 7; n >= 0; n--) {
            x.list(0, n);
        }
        x.list(1, 0);
        x.paper(0, 0, 10, 20);
        x.paper(0, 1, 0, 2879);
    }

    /** One who is first of another body's list alone. */
    private static void notOnList(WhoCommands x) {
        Worlds.one(x);
        x.body(0, 0, 0, 0);
        x.person(0, 0, 0, 0, 0);
        x.list(1, 0);
        x.list(0, 1);
    }

    private void paperAndListed() {
        edges.term("paper (1 if he has a PAPER for that BODY that holds, else 0),");
        holds(EdgesOfLaws::lastOfList, 9, "paper = 0", true);
        holds(EdgesOfLaws::lastOfList, 10, "paper = 1", true);
        holds(EdgesOfLaws::lastOfList, 19, "paper = 1", true);
        holds(EdgesOfLaws::lastOfList, 20, "paper = 0", true);
        holds(x -> {
            lastOfList(x);
            x.paper(0, 0, 12, 18);
        }, 15, "paper = 1", true);

        edges.term("listed (his place in the LIST of that BODY, from 1 on; 0 without),");
        holds(EdgesOfLaws::lastOfList, 0, "listed = 8", true);
        holds(EdgesOfLaws::notOnList, 0, "listed = 0", true);
        holds(x -> {
            Worlds.one(x);
            x.list(0, 0);
        }, 0, "listed = 1", true);
    }

    private void ownAndDepth() {
        edges.term("own (1 if his service is that of the BODY, else 0),");
        holds("own = 1", true);
        holds(EdgesOfLaws::great, 0, "own = 1", true);
        holds(x -> {
            x.body(NONE, 3, 0, 0);
            x.person(0, 0, 2, 0, 0);
        }, 0, "own = 0", true);

        edges.term("depth (how many BODIES his own lies below that one; 0 if it is his own, or neither is below it),");
        holds("depth = 0", true);
        for (int depth = 0; depth < 12; depth++) {
            int own = depth;
            holds(x -> {
                Worlds.allBodies(x);
                x.person(0, 0, 0, own, 0);
            }, 0, "depth = " + depth, true);
        }
        WhoCommands beside = new WhoCommands();
        beside.body(NONE, 0, 0, 0);
        beside.body(NONE, 0, 0, 0);
        beside.body(1, 0, 0, 0);
        beside.person(0, 0, 0, 2, 0);
        beside.person(9, 0, 0, 1, 0);
        Check.law(beside, "first rank if depth = 0");
        beside.rules(0, 0);
        edges.due("neither is below the other", beside.ahead(0, 1, 0, 0, 0), 1);
        edges.due("by rank, as both have depth 0", beside.ahead(0, 1, 0, 0, 1), 0);
        beside.rules(2, 0);
        edges.due("the body lies below that of one of them, his depth is 0, too", beside.ahead(0, 1, 2, 0, 0), 1);
        Check.law(beside, "first rank if depth = 1");
        beside.rules(1, 1);
        edges.due("one below has depth 1", beside.ahead(0, 1, 1, 0, 0), 0);

        edges.term("fallen, since, doing (of an ORDER alone, else 0, see IV).");
        holds("fallen + since + doing = 0", true);
        holds(Worlds::one, 2879, "fallen + since + doing = 0", true);
        WhoCommands fallen = new WhoCommands();
        Worlds.one(fallen);
        fallen.person(9, 0, 0, 0, 0);
        fallen.falls(1, 0);
        fallen.order(1, 0, 9, 0, 0, 10);
        Check.law(fallen, "first rank if fallen = 0 and since = 0 and doing = 0");
        fallen.rules(0, 1);
        edges.due("of one who has fallen and has given an order", fallen.ahead(0, 1, 0, 5, 0), 1);
    }

    private void blanks() {
        edges.term("Blanks (32) stand between as one likes.");
        good("bar[not[rank<=9and 1=1]]or 1+1=2;first rank if 1=1");
        good("   bar  [  not  [  rank  <=  9  and  1  =  1  ]  ]  or  1  +  1  =  2  ;  first  rank  if  1  =  1   ");
        good("bar1=1;lapse[1=1];first own if1=1;bar not[1=1]");
        good("bar 1=1or 2=2");
        good("bar 1=1and not[2=2]");
        fault("bar 1<\t2", 6, 0);
        fault("bar\n1<2", 3, 0);
        fault("bar" + (char) 31 + "1<2", 3, 0);
        fault("bar" + (char) 33 + "1<2", 3, 0);
        fault("bar" + (char) 160 + "1<2", 3, 0);
        fault("ba r 1<2", 0, 0);
        fault("bar ra nk=1", 4, 0);
        fault("bar 1 0=1", 6, 0);
        fault("   ", 3, 0);
    }

    private void depths() {
        edges.term("[ and not lie within one another 10 deep at most;");
        good("bar " + "[".repeat(10) + "1=1" + "]".repeat(10));
        good("bar " + "not ".repeat(10) + "1=1");
        good("bar " + "not[".repeat(5) + "1=1" + "]".repeat(5));
        fault("bar " + "[".repeat(11) + "1=1" + "]".repeat(11), 14, 2);
        fault("bar " + "not ".repeat(11) + "1=1", 44, 2);
        fault("bar " + "not[".repeat(5) + "[1=1]" + "]".repeat(5), 24, 2);
        good("bar " + "[".repeat(10) + "1=1" + "]".repeat(10) + " and " + "[".repeat(10) + "1=1" + "]".repeat(10));
        good("bar " + "not ".repeat(10) + "1=1 or " + "not ".repeat(10) + "1=1");
        good("bar " + "[".repeat(9) + "[1=1] and [1=1] or not 1=1" + "]".repeat(9));
        fault("bar " + "[".repeat(9) + "[1=1] and [not 1=1]" + "]".repeat(9), 24, 2);
        good("first own if " + "[".repeat(10) + "1=1" + "]".repeat(10) + ";lapse " + "not ".repeat(10) + "1=1");
        holds("not ".repeat(9) + "1=1", false);
        holds("not ".repeat(10) + "1=1", true);
        holds("[".repeat(10) + "1=2" + "]".repeat(10), false);
    }

    private void counts() {
        edges.term("at most 60 VALUES and FACTS made of a SIGN, together.");
        good("bar " + FIFTY + "+1+1+1+1+1+1+1+1=58");
        good("bar " + FIFTY + "=1+1+1+1+1+1+1+1+1");
        holds(FIFTY + "+1+1+1+1+1+1+1+1=58", true);
        holds(FIFTY + "+1+1+1+1+1+1+1+1>58", false);
        holds("0=1" + "+1".repeat(57), false);
        holds("58=1" + "+1".repeat(57), true);
        String twenty = "1=1" + " and 1=1".repeat(19);
        good("bar " + twenty);
        holds(twenty, true);
        holds(twenty.substring(0, twenty.length() - 1) + "2", false);
        fault("bar " + twenty + " and 1=1", 4 + twenty.length() + 5, 3);
        good("bar " + "[".repeat(10) + "1=1" + "]".repeat(10) + " and " + twenty.substring(8));
        good("bar 1=1;lapse 1=1;first rank if " + "1=1 and ".repeat(17) + "1=1");
        fault("bar 1=1;lapse 1=1;first rank if " + "1=1 and ".repeat(18) + "1=1", 32 + 8 * 18, 3);
        good(TWELVE.substring(0, 110) + "bar " + twenty);
        WhoCommands x = new WhoCommands();
        Worlds.one(x);
        for (int n = 1; n < 8; n++) {
            edges.due("one too many ahead of law " + n, Check.law(x, "bar " + twenty + " and 1=1"),
                    Check.fault(4 + twenty.length() + 5, 3));
            String last = n % 2 == 0 ? "1" : "2";
            String test = twenty.substring(0, twenty.length() - 1) + last;
            edges.due("sixty of each law, law " + n, Check.law(x, "bar " + test + ";first own"), n);
            x.rules(0, n);
            edges.due("all sixty are kept, and the last of them tells", x.may(0, 0), n % 2);
        }
    }

    private void strangeThings() {
        edges.term("FAULTS, the first along the text, 1 + 8 * its place and: 0 a byte or WORD that can't stand there,");
        edges.due("at place 0", read("?"), -2 - 1);
        edges.due("at place 1", read(" ?"), -2 - 9);
        edges.due("at the last place", read("first own" + " ".repeat(390) + "?"), -2 - (1 + 8 * 399));
        fault("first own" + " ".repeat(388) + "day", 397, 0);
        for (int sign = 0; sign < 256; sign++) {
            boolean stands = sign == ' ' || sign == ';' || sign >= 'a' && sign <= 'z';
            if (!stands) {
                fault("first own" + (char) sign, 9, 0);
            }
        }
        for (int sign = 0; sign < 256; sign++) {
            boolean stands = sign == ' ' || sign >= 'a' && sign <= 'z';
            if (!stands) {
                fault((char) sign + "first own", 0, 0);
            }
        }
    }

    /** A law cut off behind each byte, and where it could have ended. */
    private void theEnd() {
        edges.term("or the end (behind the last byte);");
        fault("", 0, 0);
        fault(" ", 1, 0);
        fault("bar", 3, 0);
        fault("bar ", 4, 0);
        fault("bar" + " ".repeat(396), 399, 0);
        fault("bar" + " ".repeat(397), 400, 0);
        fault("bar 1" + " ".repeat(394) + "<", 400, 0);
        fault("bar [1=1", 8, 0);
        fault("bar [1=1  ", 10, 0);
        String text = "bar not [ rank + 1 <= 12 or day > 3 ]";
        for (int n = 0; n < text.length(); n++) {
            String cut = text.substring(0, n);
            int wordFrom = cut.lastIndexOf(' ') + 1;
            boolean endsInWord = n > wordFrom && Character.isLetter(cut.charAt(n - 1));
            String word = cut.substring(wordFrom);
            boolean isWhole = isOneOf(WORDS, word) || isOneOf(new String[] {"bar", "not", "or"}, word);
            fault(cut, endsInWord && !isWhole ? wordFrom : n, 0);
        }
        good(text);
    }

    private void longNumbers() {
        edges.term("1 a NUMBER of more digits;");
        good("bar 1234=1");
        fault("bar 12345=1", 4, 1);
        fault("bar 1=12345", 6, 1);
        fault("bar 1+ 00000=1", 7, 1);
        fault("bar 1=1-" + "9".repeat(392), 8, 1);
        fault("bar 1<" + " ".repeat(389) + "99999", 395, 1);
        fault("bar 12345", 4, 1);
        fault("bar 12345rank", 4, 1);
        fault("first 12345", 6, 0);
        fault("12345", 0, 0);
        fault("bar 1 12345", 6, 0);
        fault("bar 1=1 12345", 8, 0);
    }

    private void tooDeep() {
        edges.term("2 too deep (at the sign that opens, or the word not);");
        fault("bar " + "[".repeat(11), 14, 2);
        fault("bar " + "[ ".repeat(11), 24, 2);
        fault("bar " + "not ".repeat(11), 44, 2);
        fault("bar " + "[".repeat(10) + "not", 14, 2);
        fault("bar " + "not ".repeat(10) + "[", 44, 2);
        fault("bar " + "[".repeat(10), 14, 0);
        fault("bar " + "[".repeat(10) + "no", 14, 0);
        fault("bar " + "[".repeat(10) + "1=1 and not 1=1", 22, 2);
        fault("bar " + "[".repeat(10) + "1=1 and [1=1", 22, 2);
        fault("first own if " + "[".repeat(11), 23, 2);
    }

    private void tooMany() {
        edges.term("3 one VALUE or FACT too many (at its first byte; of a FACT at its SIGN);");
        String fiftyNine = FIFTY + "=1+1+1+1+1+1+1+1";
        int place = 4 + fiftyNine.length();
        good("bar " + fiftyNine + "+9999");
        good("bar " + fiftyNine + "+listed");
        fault("bar " + fiftyNine + "+1+9999", place + 3, 3);
        fault("bar " + fiftyNine + "+1+listed", place + 3, 3);
        fault("bar " + fiftyNine + "+1 -  listed", place + 6, 3);
        String sixty = FIFTY + "+1".repeat(10);
        fault("bar " + sixty + "=1", 4 + sixty.length(), 3);
        fault("bar " + sixty + "  <=1", 6 + sixty.length(), 3);
        fault("bar " + sixty + " 1", 5 + sixty.length(), 0);
        fault("bar " + sixty, 4 + sixty.length(), 0);
        fault("bar " + fiftyNine + " and 1=1", place + 6, 3);
        fault("bar " + fiftyNine + " and not [not 1<=1]", place + 15, 3);
        good("bar " + FIFTY + "=1+1+1+1+1+1 and 1=1");
        fault("bar " + FIFTY + "=1+1+1+1+1+1+1 and 1=1", 4 + 99 + 14 + 7, 3);
        fault("bar " + FIFTY + "=1+1+1+1+1+1+1+1 and 1=1", 4 + 99 + 16 + 6, 3);
        fault("bar " + FIFTY + "=1+1+1+1+1+1+1+1+1 and 1=1", 4 + 99 + 18 + 5, 3);
    }

    private void thirteenth() {
        edges.term("4 a thirteenth CLAUSE (at its first byte).");
        fault(TWELVE + ";first own", 120, 4);
        fault(TWELVE + ";   first own", 123, 4);
        fault(TWELVE + ";bar", 120, 4);
        fault(TWELVE + ";lapse ?", 120, 4);
        fault(TWELVE + ";first own;first own", 120, 4);
        WhoCommands x = new WhoCommands();
        for (int n = 0; n < 8; n++) {
            edges.due("a thirteenth ahead of law " + n, Check.law(x, TWELVE + ";first own"), Check.fault(120, 4));
            edges.due("twelve of each law, law " + n, Check.law(x, TWELVE), n);
        }
    }

    private void leastOfOnePlace() {
        edges.term("Of one place the least.");
        String sixty = FIFTY + "=1+1+1+1+1+1+1+1+1";
        int place = 4 + sixty.length() + 1;
        fault("bar " + sixty + "+1", place, 3);
        fault("bar " + sixty + "+12345", place, 1);
        fault("bar " + sixty + "+list", place, 0);
        fault("bar " + sixty + "+", place, 0);
        fault(TWELVE + ";", 120, 0);
        fault(TWELVE + ";firs", 120, 0);
        fault(TWELVE + ";own", 120, 0);
        fault(TWELVE + "; ;", 121, 0);
        fault(TWELVE + ";12345", 120, 0);
    }

    private void firstAlongText() {
        edges.term("FAULTS, the first along the text,");
        fault("first nothing; bar 12345=1", 6, 0);
        fault("bar 12345=1; first nothing", 4, 1);
        fault("bar " + "[".repeat(11) + "12345=1", 14, 2);
        fault("bar " + "[".repeat(10) + "12345=1 and [", 14, 1);
        fault("bar " + FIFTY + "+1".repeat(11) + "+12345", 4 + 99 + 21, 3);
        fault("bar " + FIFTY + "+12345" + "+1".repeat(11), 4 + 99 + 1, 1);
        fault(TWELVE + ";bar 12345=1", 120, 4);
        fault(TWELVE.replaceFirst("first own;", "first owl;") + ";bar 1=1", 6, 0);
    }

    private void rules() {
        edges.promise(12, "A BODY has a LAW from now on (NONE: none), at all MINUTES: true;");
        WhoCommands x = new WhoCommands();
        Worlds.allLaws(x);
        edges.due("by the first law, in the first minute", x.commands(0, 0), 1);
        edges.due("the last law", x.rules(0, 7), true);
        edges.due("by it in the first minute", x.commands(0, 0), 0);
        edges.due("by it in the last minute", x.commands(0, 2879), 0);
        edges.due("none", x.rules(0, NONE), true);
        edges.due("nobody in the first minute", x.commands(0, 0), NONE);
        edges.due("nobody in the last minute", x.commands(0, 2879), NONE);
        edges.due("none again", x.rules(0, NONE), true);
        edges.due("the first law", x.rules(0, 0), true);
        edges.due("by it in the last minute", x.commands(0, 2879), 1);
        edges.in(Worlds::rich);
        edges.limits("a law of body", 0, 3, 1, 0, (y, n) -> y.rules(n, 1) ? 1 : 0);
        edges.limits("a body has law", NONE, 2, 1, 0, (y, n) -> y.rules(3, n) ? 1 : 0);

        edges.promise(12, "false, and nothing happens, for others.");
        edges.leaves("a body that is not there has no law", 0, y -> y.rules(4, NONE) ? 1 : 0);
        edges.leaves("NONE is no body", 0, y -> y.rules(NONE, 0) ? 1 : 0);
        edges.leaves("a law that is not told yet", 0, y -> y.rules(0, 3) ? 1 : 0);
        edges.in(Worlds::allLaws);
        edges.leaves("a ninth law", 0, y -> y.rules(0, 8) ? 1 : 0);
        WhoCommands faulty = new WhoCommands();
        faulty.body(NONE, 0, 0, 0);
        Check.law(faulty, "first");
        edges.due("a text with a fault is no law", faulty.rules(0, 0), false);
    }
}
