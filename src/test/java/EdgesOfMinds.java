/** Terms, part III, and promises 16 to 20 and 34: what each PERSON KNOWS and THINKS. */
final class EdgesOfMinds {
    private static final int NONE = WhoCommands.NONE;

    private final Edges edges;

    EdgesOfMinds(Edges edges) {
        this.edges = edges;
    }

    void all() {
        messages();
        message();
        sightOfEdges();
        sight();
        heardFalls();
        ownFall();
        seenFalls();
        knownPapers();
        knows();
        mindsOfFalls();
        mindsOfPapers();
        thinks();
        wrongs();
        wrong();
        hanging();
        hangs();
    }

    /** 0 of rank 9 and 1 of rank 8 in body 0 at 0, 0; 2 of rank 7 far off in body 1 under it; 3 beside, far off. */
    private static void four(WhoCommands x) {
        x.body(NONE, 0, 0, 0);
        x.body(0, 0, 90, 90);
        x.body(NONE, 0, 90, 90);
        x.person(9, 0, 0, 0, 0);
        x.person(8, 0, 0, 0, 0);
        x.person(7, 0, 0, 1, 0);
        x.person(9, 0, 0, 2, 0);
        Check.law(x, "first paper; first rank");
        x.rules(0, 0);
    }

    private static WhoCommands fourTold() {
        WhoCommands x = new WhoCommands();
        four(x);
        return x;
    }

    private void messages() {
        edges.term("MESSAGES, 200 at most: of a FALL (of a PERSON) or of a PAPER, to a PERSON, "
                + "that comes in a MINUTE, or is lost (NONE).");
        WhoCommands x = fourTold();
        x.falls(0, 0);
        edges.due("a message that comes at once", x.message(false, 0, 2, 0), 0);
        edges.due("it has come", x.knows(2, false, 0, 0), 1);
        edges.due("a message that comes at last", x.message(false, 0, 3, 2879), 1);
        edges.due("it has not come in the minute ahead of that", x.knows(3, false, 0, 2878), 0);
        edges.due("it has come at last", x.knows(3, false, 0, 2879), 1);
        WhoCommands y = fourTold();
        y.falls(0, 0);
        edges.due("a message that is lost", y.message(false, 0, 2, NONE), 0);
        edges.due("it never comes", y.knows(2, false, 0, 2879), 0);
        WhoCommands last = fourTold();
        last.falls(0, 0);
        for (int n = 0; n < 200; n++) {
            edges.due("message " + n, last.message(false, 0, n == 199 ? 2 : 1, 5), n);
        }
        edges.due("the last of 200 has come", last.knows(2, false, 0, 5), 1);
        edges.due("and something hangs on it", last.hangs(199, 0, 5), 1);
    }

    private void message() {
        edges.promise(16, "A MESSAGE of a FALL of a PERSON (isPaper false), or of a PAPER, to a PERSON, "
                + "coming in a MINUTE (NONE: lost): its number;");
        edges.in(Worlds::rich);
        edges.limits("a message of the fall of", 0, 5, 3, NONE, (x, n) -> x.message(false, n, 0, 0));
        edges.limits("a message of paper", 0, 1, 3, NONE, (x, n) -> x.message(true, n, 0, 0));
        edges.limits("a message to", 0, 5, 3, NONE, (x, n) -> x.message(false, 0, n, 0));
        edges.limits("a message of a paper to", 0, 5, 3, NONE, (x, n) -> x.message(true, 0, n, 0));
        edges.limits("a message of a paper that comes in", NONE, 2879, 3, NONE, (x, n) -> x.message(true, 0, 0, n));

        edges.promise(16, "NONE: there are 200, or something is not as told (a FALL need not be told yet).");
        edges.in(Worlds::allMessages);
        edges.leaves("a message too many", NONE, x -> x.message(false, 1, 0, 0));
        edges.leaves("a lost message too many", NONE, x -> x.message(false, 1, 0, NONE));
        edges.in(Worlds::rich);
        edges.takes("a message of a fall that is not told", 3, x -> x.message(false, 1, 0, 0));
        edges.leaves("a message of a paper that is not told", NONE, x -> x.message(true, 2, 0, 0));
        WhoCommands x = fourTold();
        x.message(false, 0, 2, 7);
        edges.due("the fall is not told, he thinks as it is", x.thinks(2, 0, 7), 0);
        x.falls(0, 7);
        edges.due("the fall is told behind its message", x.thinks(2, 0, 7), 1);
    }

    private void sightOfEdges() {
        edges.term("SIGHT (0 to 99 steps; 10 at first).");
        for (int steps = 9; steps <= 11; steps++) {
            WhoCommands x = fourTold();
            x.step(2, 0, steps, 0);
            x.falls(0, 0);
            edges.due("at first, from " + steps + " steps", x.knows(2, false, 0, 0), steps <= 10 ? 1 : 0);
        }
        for (int steps = 98; steps <= 100; steps++) {
            WhoCommands x = fourTold();
            x.sight(99);
            x.step(2, 0, steps - 50, 50);
            x.falls(0, 0);
            edges.due("with 99, from " + steps + " steps", x.knows(2, false, 0, 0), steps <= 99 ? 1 : 0);
        }
        for (int steps = 0; steps <= 1; steps++) {
            WhoCommands x = fourTold();
            x.sight(0);
            x.step(2, 0, 0, steps);
            x.falls(0, 0);
            edges.due("with 0, from " + steps + " steps", x.knows(2, false, 0, 0), steps == 0 ? 1 : 0);
        }
    }

    private void sight() {
        edges.promise(17, "SIGHT becomes n: what it was;");
        WhoCommands x = new WhoCommands();
        edges.due("at first", x.sight(0), 10);
        edges.due("the least", x.sight(99), 0);
        edges.due("the greatest", x.sight(99), 99);
        edges.due("again", x.sight(50), 99);
        WhoCommands y = fourTold();
        y.step(2, 0, 20, 0);
        y.falls(0, 0);
        edges.due("ahead of it", y.knows(2, false, 0, 0), 0);
        y.sight(20);
        edges.due("it counts for falls that were told ahead of it", y.knows(2, false, 0, 0), 1);

        edges.promise(17, "NONE, and nothing happens, for others.");
        edges.in(Worlds::rich);
        edges.beyond("sight", 0, 99, NONE, (z, n) -> z.sight(n));
        edges.in(Worlds::nothing);
        edges.beyond("sight of a new object", 0, 99, NONE, (z, n) -> z.sight(n));
    }

    private void heardFalls() {
        edges.term("In a MINUTE a PERSON KNOWS of a FALL that was: if a MESSAGE of it came to him by then,");
        WhoCommands x = fourTold();
        x.falls(0, 100);
        x.message(false, 0, 2, 110);
        edges.due("in the minute ahead of the message", x.knows(2, false, 0, 109), 0);
        edges.due("in that of it", x.knows(2, false, 0, 110), 1);
        edges.due("to the end", x.knows(2, false, 0, 2879), 1);
        edges.due("another one, far off, has no message", x.knows(3, false, 0, 2879), 0);
        WhoCommands early = fourTold();
        early.falls(0, 100);
        early.message(false, 0, 2, 50);
        edges.due("a message ahead of the fall: there was none", early.knows(2, false, 0, 99), NONE);
        edges.due("it was, and its message came by then", early.knows(2, false, 0, 100), 1);
        edges.due("he thinks nothing of it ahead of the fall", early.thinks(2, 0, 99), 0);
        edges.due("he does with the fall", early.thinks(2, 0, 100), 1);
        WhoCommands other = fourTold();
        other.falls(0, 100);
        other.paper(1, 0, 0, 1);
        other.message(true, 0, 2, 100);
        other.message(false, 1, 2, 100);
        edges.due("messages of paper 0 and of the fall of 1", other.knows(2, false, 0, 100), 0);
        other.message(false, 0, 2, NONE);
        edges.due("a lost message", other.knows(2, false, 0, 2879), 0);
        other.message(false, 0, 2, 2879);
        other.message(false, 0, 2, 200);
        edges.due("of two messages the earlier", other.knows(2, false, 0, 200), 1);
        edges.due("in the minute ahead of that", other.knows(2, false, 0, 199), 0);
    }

    private void ownFall() {
        edges.term("or it is his own,");
        WhoCommands x = fourTold();
        x.sight(0);
        x.falls(2, 0);
        x.falls(3, 2879);
        edges.due("his own in the first minute", x.knows(2, false, 2, 0), 1);
        edges.due("his own in the last minute", x.knows(3, false, 3, 2879), 1);
        edges.due("his own ahead of it", x.knows(3, false, 3, 2878), NONE);
    }

    private void seenFalls() {
        edges.term("or his PLACE in the MINUTE of it was not farther than SIGHT from the PLACE of the one who fell.");
        WhoCommands x = fourTold();
        x.step(0, 0, 50, 50);
        x.step(0, 101, 0, 0);
        x.step(2, 99, 50, 50);
        x.step(2, 100, 56, 45);
        x.step(2, 101, 50, 50);
        x.step(3, 100, 45, 45);
        x.step(3, 101, 0, 99);
        x.falls(0, 100);
        edges.due("eleven steps off in that minute, though he was near ahead of it and behind it",
                x.knows(2, false, 0, 101), 0);
        edges.due("ten steps off in that minute alone", x.knows(3, false, 0, 2879), 1);
        edges.due("who stands in the same body, a hundred steps off", x.knows(1, false, 0, 100), 0);
        WhoCommands both = fourTold();
        both.falls(0, 5);
        both.falls(1, 5);
        edges.due("one sees the fall of another in that of his own", both.knows(1, false, 0, 5), 1);
        WhoCommands dead = fourTold();
        dead.falls(1, 4);
        dead.falls(0, 5);
        edges.due("one who has fallen sees it, too", dead.knows(1, false, 0, 5), 1);
        WhoCommands spot = fourTold();
        spot.falls(2, 5);
        edges.due("by the spots of their bodies", spot.knows(3, false, 2, 5), 1);
    }

    private void knownPapers() {
        edges.term("He KNOWS of a PAPER that names him, and of one of which a MESSAGE came to him by then.");
        WhoCommands x = fourTold();
        x.paper(2, 0, 1000, 1001);
        edges.due("it names him, ahead of its hour", x.knows(2, true, 0, 0), 1);
        edges.due("it names him, behind its hour", x.knows(2, true, 0, 2879), 1);
        edges.due("it names another", x.knows(1, true, 0, 1000), 0);
        x.message(true, 0, 1, 1000);
        edges.due("in the minute ahead of the message", x.knows(1, true, 0, 999), 0);
        edges.due("in that of it", x.knows(1, true, 0, 1000), 1);
        edges.due("to the end", x.knows(1, true, 0, 2879), 1);
        x.message(true, 0, 0, NONE);
        edges.due("a lost message", x.knows(0, true, 0, 2879), 0);
        x.message(false, 0, 3, 0);
        edges.due("a message of the fall of 0", x.knows(3, true, 0, 2879), 0);
        x.falls(3, 10);
        x.message(true, 0, 3, 20);
        edges.due("to one who has fallen", x.knows(3, true, 0, 20), 1);
        WhoCommands last = new WhoCommands();
        Worlds.allPapers(last);
        edges.due("the last of twenty-four names him", last.knows(1, true, 23, 0), 1);
        edges.due("it does not name the other", last.knows(0, true, 23, 0), 0);
        last.message(true, 23, 0, 7);
        edges.due("a message of the last", last.knows(0, true, 23, 7), 1);
        edges.due("it is not of another", last.knows(0, true, 21, 7), 0);
    }

    private void knows() {
        edges.promise(18, "1 if a PERSON KNOWS in a MINUTE of the FALL of a PERSON "
                + "(isPaper false; it must have been by then), or of a PAPER, 0 if not;");
        edges.in(Worlds::rich);
        edges.leaves("a fall in the minute ahead of it", NONE, x -> x.knows(0, false, 0, 29));
        edges.leaves("a fall in its minute", 1, x -> x.knows(0, false, 0, 30));
        edges.leaves("one who does not know", 0, x -> x.knows(3, false, 0, 34));
        edges.leaves("one who knows from then on", 1, x -> x.knows(3, false, 0, 35));
        edges.leaves("one who has not fallen at all", NONE, x -> x.knows(1, false, 1, 2879));
        edges.leaves("a paper of which he does not know", 0, x -> x.knows(0, true, 0, 50));
        edges.leaves("a paper of which he knows", 1, x -> x.knows(3, true, 0, 0));

        edges.promise(18, "NONE without these.");
        edges.asked("knows of a fall", 0, 1, 5, 0, NONE, (x, n) -> x.knows(n, false, 0, 30));
        edges.asked("knows of the fall of", 0, 1, 5, 0, NONE, (x, n) -> x.knows(0, false, n, 2879));
        edges.asked("knows of a paper", 0, 0, 5, 0, NONE, (x, n) -> x.knows(n, true, 0, 30));
        edges.asked("knows of paper", 0, 0, 1, 1, NONE, (x, n) -> x.knows(2, true, n, 30));
        edges.asked("knows of a paper in", 0, 1, 2879, 1, NONE, (x, n) -> x.knows(2, true, 1, n));
        edges.asked("knows of a fall in", 30, 1, 2879, 1, NONE, (x, n) -> x.knows(0, false, 0, n));
    }

    private void mindsOfFalls() {
        edges.term("THINKS: who he takes to command a BODY in a MINUTE: "
                + "as COMMANDS, but by FALLS and PAPERS that he KNOWS of then alone");
        WhoCommands x = fourTold();
        x.falls(0, 100);
        edges.due("ahead of the fall", x.thinks(2, 0, 99), 0);
        edges.due("he does not know of it", x.thinks(2, 0, 2879), 0);
        edges.due("he saw it", x.thinks(1, 0, 100), 1);
        x.message(false, 0, 2, 120);
        edges.due("in the minute ahead of the message", x.thinks(2, 0, 119), 0);
        edges.due("in that of it", x.thinks(2, 0, 120), 1);
        x.falls(1, 130);
        edges.due("he knows of the one fall, not of the other", x.thinks(2, 0, 130), 1);
        x.falls(2, 140);
        x.message(false, 1, 2, 140);
        edges.due("he takes nobody to command", x.thinks(2, 0, 140), NONE);
    }

    private void mindsOfPapers() {
        WhoCommands x = fourTold();
        x.paper(1, 0, 10, 20);
        edges.due("it names him and does not hold yet", x.thinks(1, 0, 9), 0);
        edges.due("it names him and holds", x.thinks(1, 0, 10), 1);
        edges.due("it holds in the last minute", x.thinks(1, 0, 19), 1);
        edges.due("it holds no more", x.thinks(1, 0, 20), 0);
        edges.due("another does not know of it", x.thinks(0, 0, 15), 0);
        x.message(true, 0, 0, 18);
        edges.due("ahead of the message", x.thinks(0, 0, 17), 0);
        edges.due("with the message", x.thinks(0, 0, 18), 1);
        edges.due("with the message, behind the paper", x.thinks(0, 0, 20), 0);
        x.paper(1, 0, 15, 30);
        edges.due("of a second paper for the same he does not know", x.thinks(0, 0, 25), 0);
        edges.due("he whom it names does", x.thinks(1, 0, 25), 1);
        x.rules(0, Check.law(x, "bar paper = 1; first rank"));
        x.paper(0, 0, 40, 50);
        edges.due("he is barred by his own paper", x.thinks(0, 0, 40), 1);
        edges.due("and others do not know it", x.thinks(1, 0, 40), 0);
        x.rules(0, Check.law(x, "first rank if paper = 0"));
        edges.due("an if by his own paper", x.thinks(0, 0, 40), 1);
        edges.due("an if by a paper of which one does not know", x.thinks(1, 0, 40), 0);

        edges.term("(all else as it is; the fallen think, too).");
        WhoCommands y = fourTold();
        y.falls(1, 0);
        y.rules(0, Check.law(y, "first near; first list"));
        y.step(2, 5, 0, 0);
        edges.due("a step of another, far off, ahead of it", y.thinks(3, 0, 4), 0);
        y.list(0, 2);
        edges.due("a step and a list", y.thinks(3, 0, 5), 2);
        edges.due("one who has fallen", y.thinks(1, 0, 5), 2);
        y.rules(0, NONE);
        edges.due("without a law", y.thinks(1, 0, 5), NONE);
    }

    private void thinks() {
        edges.promise(19, "THINKS; -2 without these.");
        edges.in(Worlds::rich);
        edges.asked("who thinks", 0, 2, 5, 0, -2, (x, n) -> x.thinks(n, 0, 30));
        edges.asked("who commands", 0, 0, 3, NONE, -2, (x, n) -> x.thinks(3, n, 0));
        edges.asked("thinks in", 0, 0, 2879, 2, -2, (x, n) -> x.thinks(3, 0, n));
    }

    private void wrongs() {
        edges.term("WRONG: PEOPLE not FALLEN who stand in the BODY, or in one UNDER it, and think otherwise than it is "
                + "(by so many who are FALLEN and those PAPERS that there are).");
        WhoCommands x = fourTold();
        edges.due("nothing has happened", x.wrong(0, 0), 0);
        x.falls(0, 100);
        edges.due("ahead of the fall", x.wrong(0, 99), 0);
        edges.due("one under it, and not the one beside it", x.wrong(0, 100), 0b100);
        x.message(false, 0, 2, 110);
        edges.due("ahead of the message", x.wrong(0, 109), 0b100);
        edges.due("with the message", x.wrong(0, 110), 0);
        x.paper(2, 0, 200, 300);
        edges.due("a paper of which one does not know", x.wrong(0, 200), 0b010);
        edges.due("in its last minute", x.wrong(0, 299), 0b010);
        edges.due("behind it", x.wrong(0, 300), 0);
        x.falls(1, 250);
        edges.due("in the minute ahead of his fall", x.wrong(0, 249), 0b010);
        edges.due("who is wrong has fallen", x.wrong(0, 250), 0);
        edges.due("without a law nobody is wrong", x.wrong(2, 100), 0);
        WhoCommands all = new WhoCommands();
        Worlds.allPeople(all);
        all.falls(9, 0);
        for (int n = 0; n < 9; n++) {
            all.step(n, 0, 99, n);
        }
        edges.due("those who are far off from the fall of the first of rank 9", all.wrong(0, 0), 0b111111111);
        WhoCommands most = new WhoCommands();
        Worlds.allPeople(most);
        most.rules(0, Check.law(most, "first paper; first day"));
        most.paper(23, 0, 0, 5);
        edges.due("all but the one whom the paper names", most.wrong(0, 0), 0x7fffff);
    }

    private void wrong() {
        edges.promise(20, "WRONG, as bits; NONE without these.");
        edges.in(Worlds::rich);
        edges.asked("wrong of", 0, 0b101000, 3, 0, NONE, (x, n) -> x.wrong(n, 30));
        edges.asked("wrong in", 0, 0, 2879, 0, NONE, (x, n) -> x.wrong(0, n));
        edges.leaves("wrong in the minute ahead of a message", 0b101000, x -> x.wrong(0, 34));
        edges.leaves("wrong with the message", 0b100000, x -> x.wrong(0, 35));
    }

    private void hanging() {
        edges.term("HANGS: how many more would be WRONG of a BODY in a MINUTE without a MESSAGE (below 0: fewer).");
        WhoCommands x = fourTold();
        x.falls(0, 100);
        x.message(false, 0, 2, 110);
        x.message(false, 0, 1, 100);
        x.message(false, 0, 3, 100);
        x.message(false, 1, 2, 100);
        edges.due("in the minute ahead of it", x.hangs(0, 0, 109), 0);
        edges.due("in that of it", x.hangs(0, 0, 110), 1);
        edges.due("to the end", x.hangs(0, 0, 2879), 1);
        edges.due("to one who saw it", x.hangs(1, 0, 110), 0);
        edges.due("to one beside", x.hangs(2, 0, 110), 0);
        edges.due("of what has not been", x.hangs(3, 0, 110), 0);
        x.message(false, 0, 2, 111);
        edges.due("ahead of a second one", x.hangs(0, 0, 110), 1);
        edges.due("with a second one", x.hangs(0, 0, 111), 0);
        edges.due("it is still there", x.wrong(0, 110), 0);
        WhoCommands fewer = fourTold();
        fewer.paper(1, 0, 0, 100);
        fewer.paper(0, 0, 0, 100);
        fewer.message(true, 0, 2, 5);
        edges.due("he knows of the lower paper alone", fewer.thinks(2, 0, 5), 1);
        edges.due("without it he would be right", fewer.hangs(0, 0, 5), -1);
        edges.due("it has not come", fewer.hangs(0, 0, 4), 0);
    }

    private void hangs() {
        edges.promise(34, "HANGS; -1000 without these.");
        edges.in(Worlds::rich);
        edges.asked("hangs on", 0, 1, 2, 0, -1000, (x, n) -> x.hangs(n, 0, 35));
        edges.asked("hangs for", 0, 1, 3, 0, -1000, (x, n) -> x.hangs(0, n, 35));
        edges.asked("hangs in", 0, 0, 2879, 0, -1000, (x, n) -> x.hangs(1, 0, n));
        edges.in(Worlds::allMessages);
        edges.asked("hangs on", 0, 0, 199, 0, -1000, (x, n) -> x.hangs(n, 0, 199));
    }
}
