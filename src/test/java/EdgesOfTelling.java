/** Terms, part I, and promises 1 to 8: what is told of BODIES and PEOPLE. */
final class EdgesOfTelling {
    private static final int NONE = WhoCommands.NONE;

    private final Edges edges;

    EdgesOfTelling(Edges edges) {
        this.edges = edges;
    }

    void all() {
        life();
        none();
        newObject();
        nothingToAskOf();
        toldMinutes();
        askedMinutes();
        askedMinutesOfWhatWouldBe();
        bodies();
        under();
        people();
        ranks();
        steps();
        places();
        near();
        papers();
        paperHolds();
        lists();
        falls();
    }

    private void life() {
        edges.use("An object is used for at most 512 calls after it has been made; what later calls answer is free.");
        WhoCommands x = new WhoCommands();
        Worlds.one(x);
        for (int call = 7; call < 512; call++) {
            x.commands(0, call);
        }
        edges.due("the 512th call", x.commands(0, 2879), 0);
        for (int call = 513; call < 700; call++) {
            x.commands(0, call);
        }
    }

    private void none() {
        edges.term("The constants: NONE = -1: None.");
        edges.due("NONE", WhoCommands.NONE, -1);
    }

    private void newObject() {
        edges.promise(1, "Nobody, no BODIES.");
        WhoCommands x = new WhoCommands();
        for (int what = 0; what <= 8; what++) {
            edges.due("count(" + what + ") of a new object", x.count(what), 0);
        }
        edges.in(Worlds::nothing);
        edges.leaves("person", NONE, y -> y.person(0, 0, 0, 0, 0));
        edges.leaves("body in a body", NONE, y -> y.body(0, 0, 0, 0));
        edges.leaves("step", NONE, y -> y.step(0, 0, 0, 0));
        edges.leaves("paper", NONE, y -> y.paper(0, 0, 0, 1));
        edges.leaves("list", NONE, y -> y.list(0, 0));
        edges.leaves("falls", 0, y -> y.falls(0, 0) ? 1 : 0);
        edges.leaves("rules without a law", 0, y -> y.rules(0, NONE) ? 1 : 0);
        edges.leaves("law of nothing", Check.fault(0, 0), y -> y.law());
        edges.leaves("message of a fall", NONE, y -> y.message(false, 0, 0, 0));
        edges.leaves("message of a paper", NONE, y -> y.message(true, 0, 0, 0));
        edges.leaves("order", NONE, y -> y.order(0, 0, 0, 0, 0, 1));
        edges.takes("the first body", 0, y -> y.body(NONE, 0, 0, 0));
    }

    private void nothingToAskOf() {
        edges.leaves("near", NONE, y -> y.near(0, 0, 0));
        edges.leaves("may", NONE, y -> y.may(0, 0));
        edges.leaves("commands", -2, y -> y.commands(0, 0));
        edges.leaves("ahead", -2, y -> y.ahead(0, 1, 0, 0, 0));
        edges.leaves("knows of a fall", NONE, y -> y.knows(0, false, 0, 0));
        edges.leaves("knows of a paper", NONE, y -> y.knows(0, true, 0, 0));
        edges.leaves("thinks", -2, y -> y.thinks(0, 0, 0));
        edges.leaves("wrong", NONE, y -> y.wrong(0, 0));
        edges.leaves("seat", -2, y -> y.seat(0));
        edges.leaves("force", NONE, y -> y.force(0, 0));
        edges.leaves("bound", -2, y -> y.bound(0, 0));
        edges.leaves("cross", NONE, y -> y.cross(0, 0));
        edges.leaves("answers", -2, y -> y.answers(0, 0, 0));
        edges.leaves("gaps", -2, y -> y.gaps(0, 0, 0, 0));
        edges.leaves("doubt", -2, y -> y.doubt(0, 0, 0));
        edges.leaves("brief", NONE, y -> y.brief(0, 0, 1, 0));
        edges.leaves("fights", NONE, y -> y.fights(0, 0, 0, 0, 1, 0));
        edges.leaves("allied", -2, y -> y.allied(0, 1, 0, 0));
        edges.leaves("mended", -2, y -> y.mended(0, 0, 0));
        edges.leaves("judge", -2, y -> y.judge(0, 0, 0, NONE));
        edges.leaves("hangs", -1000, y -> y.hangs(0, 0, 0));
        edges.leaves("back", NONE, y -> y.back(0));
    }

    private void toldMinutes() {
        edges.term("MINUTES 0 to 2879.");
        edges.in(Worlds::rich);
        edges.limits("a step in", 0, 2879, 4, NONE, (x, n) -> x.step(4, n, 1, 1));
        edges.limits("a fall in", 0, 2879, 1, 0, (x, n) -> x.falls(1, n) ? 1 : 0);
        edges.limits("a message that comes in", NONE, 2879, 3, NONE, (x, n) -> x.message(false, 0, 1, n));
        edges.limits("a paper from", 0, 2878, 2, NONE, (x, n) -> x.paper(0, 0, n, 2879));
        edges.limits("a paper till", 1, 2879, 2, NONE, (x, n) -> x.paper(0, 0, 0, n));
        edges.limits("an order given in", 0, 2878, 3, NONE, (x, n) -> x.order(0, 0, 0, n, 2879, 2879));
        edges.limits("an order that comes in", 0, 2879, 3, NONE, (x, n) -> x.order(0, 0, 0, 0, n, 2879));
        edges.limits("an order until", 1, 2879, 3, NONE, (x, n) -> x.order(0, 0, 0, 0, 0, n));
    }

    private void askedMinutes() {
        edges.asked("near in", 0, 0, 2879, 0, NONE, (x, n) -> x.near(4, 3, n));
        edges.asked("may in", 0, 0b1000, 2879, 0b1000, NONE, (x, n) -> x.may(2, n));
        edges.asked("commands in", 0, 0, 2879, 2, -2, (x, n) -> x.commands(0, n));
        edges.asked("ahead in", 0, 0, 2879, 0, -2, (x, n) -> x.ahead(0, 1, 0, n, 0));
        edges.asked("knows of a paper in", 0, 0, 2879, 1, NONE, (x, n) -> x.knows(1, true, 0, n));
        edges.asked("thinks in", 0, 3, 2879, 3, -2, (x, n) -> x.thinks(0, 2, n));
        edges.asked("wrong in", 0, 0, 2879, 0, NONE, (x, n) -> x.wrong(2, n));
        edges.asked("force in", 0, 0, 2879, 0, NONE, (x, n) -> x.force(2, n));
        edges.asked("bound in", 0, NONE, 2879, NONE, -2, (x, n) -> x.bound(1, n));
        edges.asked("cross in", 0, 0, 2879, 0, NONE, (x, n) -> x.cross(1, n));
        edges.asked("answers in", 0, 2, 2879, 2, -2, (x, n) -> x.answers(1, n, 3));
        edges.leaves("knows of a fall in 2879", 1, x -> x.knows(5, false, 5, 2879));
        edges.leaves("knows of a fall in 2880", NONE, x -> x.knows(5, false, 5, 2880));
    }

    private void askedMinutesOfWhatWouldBe() {
        edges.asked("gaps in", 0, 1, 2879, 1, -2, (x, n) -> x.gaps(3, n, n, 0));
        edges.leaves("gaps from -1 to 0", -2, x -> x.gaps(3, -1, 0, 0));
        edges.leaves("gaps from 2879 to 2880", -2, x -> x.gaps(3, 2879, 2880, 0));
        edges.asked("doubt in", 0, 3, 2879, 3, -2, (x, n) -> x.doubt(2, n, 0));
        edges.asked("brief in", 0, 3, 2879, 3, NONE, (x, n) -> x.brief(2, n, 1, 0));
        edges.asked("fights in", 0, 1, 2879, 1, NONE, (x, n) -> x.fights(2, n, 1, 100, 1, 0));
        edges.asked("allied in", 0, 0, 2879, 2, -2, (x, n) -> x.allied(0, 2, 0, n));
        edges.asked("mended in", 0, 0, 2879, 0, -2, (x, n) -> x.mended(2, n, 0));
        edges.asked("judge in", 0, NONE, 2879, NONE, -2, (x, n) -> x.judge(2, n, n, 3));
        edges.leaves("judge from -1 to 0", -2, x -> x.judge(2, -1, 0, 3));
        edges.leaves("judge from 2879 to 2880", -2, x -> x.judge(2, 2879, 2880, 3));
        edges.asked("hangs in", 0, 0, 2879, 0, -1000, (x, n) -> x.hangs(0, 2, n));
    }

    private void bodies() {
        edges.term("BODIES 0 to 11: one above it (told ahead; NONE), a service (0 to 3), a spot x, y (0 to 99 each), "
                + "a LAW (none at first).");
        edges.in(Worlds::rich);
        edges.limits("a body under", NONE, 3, 4, NONE, (x, n) -> x.body(n, 0, 0, 0));
        edges.limits("a body of service", 0, 3, 4, NONE, (x, n) -> x.body(NONE, n, 0, 0));
        edges.limits("a body at x", 0, 99, 4, NONE, (x, n) -> x.body(NONE, 0, n, 0));
        edges.limits("a body at y", 0, 99, 4, NONE, (x, n) -> x.body(NONE, 0, 0, n));
        WhoCommands x = new WhoCommands();
        edges.due("a body above all", x.body(NONE, 3, 99, 0), 0);
        edges.due("a body under it", x.body(0, 0, 0, 99), 1);
        x.person(5, 0, 3, 0, 0);
        edges.due("from 99, 0 to 0, 99", x.near(0, 1, 0), 198);
        edges.due("nobody commands it: it has no law at first", x.commands(0, 0), NONE);
        Check.law(x, "bar own = 0");
        edges.due("a law that is told is not yet that of a body", x.commands(0, 0), NONE);
        x.rules(0, 0);
        edges.due("the service 3 of the body is that of the person", x.commands(0, 0), 0);

        edges.promise(2, "A BODY: its number; NONE: there are 12, or something is not as told.");
        WhoCommands y = new WhoCommands();
        for (int n = 0; n < 12; n++) {
            edges.due("body " + n, y.body(NONE, 0, 0, 0), n);
        }
        edges.in(Worlds::allBodies);
        edges.leaves("a thirteenth body", NONE, z -> z.body(NONE, 0, 0, 0));
        edges.leaves("a thirteenth body under the twelfth", NONE, z -> z.body(11, 3, 99, 99));
    }

    private void under() {
        edges.term("A BODY is UNDER another one, if that is above it, or above one that is above it, and so on.");
        WhoCommands x = new WhoCommands();
        Worlds.allBodies(x);
        x.person(0, 0, 0, 11, 0);
        Check.law(x, "first rank");
        for (int body = 0; body < 12; body++) {
            x.rules(body, 0);
            edges.due("he who stands in the lowest of twelve may command body " + body, x.may(body, 0), 1);
        }
        x.person(0, 0, 0, 0, 0);
        edges.due("he who stands in the highest may not command the one under it", x.may(1, 0), 1);
        edges.due("he may command his own", x.may(0, 0), 0b11);
        WhoCommands y = new WhoCommands();
        y.body(NONE, 0, 0, 0);
        y.body(0, 0, 0, 0);
        y.body(0, 0, 0, 0);
        y.person(0, 0, 0, 1, 0);
        Check.law(y, "first rank");
        y.rules(2, 0);
        edges.due("one beside another under the same is not under it", y.may(2, 0), 0);
    }

    private void people() {
        edges.term("PEOPLE 0 to 23: rank (0 to 9), day of rank (0 to 9999), service (0 to 3), "
                + "the BODY in which they stand, post in it (0 to 9).");
        edges.in(Worlds::rich);
        edges.limits("a person of rank", 0, 9, 6, NONE, (x, n) -> x.person(n, 0, 0, 0, 0));
        edges.limits("a person of day", 0, 9999, 6, NONE, (x, n) -> x.person(0, n, 0, 0, 0));
        edges.limits("a person of service", 0, 3, 6, NONE, (x, n) -> x.person(0, 0, n, 0, 0));
        edges.limits("a person in body", 0, 3, 6, NONE, (x, n) -> x.person(0, 0, 0, n, 0));
        edges.limits("a person in post", 0, 9, 6, NONE, (x, n) -> x.person(0, 0, 0, 0, n));

        edges.promise(3, "A PERSON: the number; NONE: there are 24, or something is not as told.");
        WhoCommands y = new WhoCommands();
        y.body(NONE, 0, 0, 0);
        for (int n = 0; n < 24; n++) {
            edges.due("person " + n, y.person(0, 0, 0, 0, 0), n);
        }
        Check.law(y, "first rank");
        y.rules(0, 0);
        edges.due("all twenty-four may command", y.may(0, 0), 0xffffff);
        edges.in(Worlds::allPeople);
        edges.leaves("a twenty-fifth person", NONE, z -> z.person(0, 0, 0, 0, 0));
    }

    /** The greatest values are kept as they are told. */
    private void ranks() {
        WhoCommands x = new WhoCommands();
        x.body(NONE, 3, 0, 0);
        x.person(9, 9999, 3, 0, 9);
        x.person(8, 9998, 2, 0, 8);
        Check.law(x, "bar not [rank = 9 and day = 9999 and service = 3 and post = 9]");
        Check.law(x, "bar not [rank = 8 and day = 9998 and service = 2 and post = 8]");
        x.rules(0, 0);
        edges.due("the one of the greatest values", x.may(0, 0), 0b01);
        x.rules(0, 1);
        edges.due("the one of those next to them", x.may(0, 0), 0b10);
    }

    private void steps() {
        edges.term("STEPS, 200 at most: a PERSON is at x, y (0 to 99 each) from a MINUTE on.");
        edges.in(Worlds::rich);
        edges.limits("a step of", 0, 5, 4, NONE, (x, n) -> x.step(n, 0, 0, 0));
        edges.limits("a step to x", 0, 99, 4, NONE, (x, n) -> x.step(0, 0, n, 0));
        edges.limits("a step to y", 0, 99, 4, NONE, (x, n) -> x.step(0, 0, 0, n));

        edges.promise(4, "A STEP: how many there are; NONE: 200, or something is not as told.");
        WhoCommands y = new WhoCommands();
        Worlds.one(y);
        for (int n = 1; n <= 200; n++) {
            edges.due("step " + n, y.step(0, 2879, n % 100, 99), n);
        }
        edges.due("the last of 200 is where he is", y.near(0, 0, 2879), 99);
        edges.in(Worlds::allSteps);
        edges.leaves("a step too many", NONE, z -> z.step(0, 200, 50, 50));
        edges.due("the last of 200 in the minute ahead of it", edges.told().near(0, 0, 198), 98);
        edges.due("the last of 200", edges.told().near(0, 0, 199), 99);
    }

    private void places() {
        edges.term("His PLACE in a MINUTE: by the latest MINUTE not behind it for which he has a STEP, "
                + "of several the one told last; without any, the spot of his BODY.");
        WhoCommands x = new WhoCommands();
        x.body(NONE, 0, 0, 0);
        x.body(0, 0, 7, 8);
        x.person(0, 0, 0, 1, 0);
        x.person(0, 0, 0, 1, 0);
        edges.due("without any step", x.near(0, 0, 2879), 15);
        x.step(1, 0, 99, 99);
        edges.due("with a step of another one", x.near(0, 0, 0), 15);
        x.step(0, 100, 1, 0);
        edges.due("in the minute ahead of his first step", x.near(0, 0, 99), 15);
        edges.due("in that of it", x.near(0, 0, 100), 1);
        edges.due("to the end", x.near(0, 0, 2879), 1);
        x.step(0, 50, 2, 0);
        edges.due("a step told later for an earlier minute", x.near(0, 0, 50), 2);
        edges.due("in the minute ahead of the later one", x.near(0, 0, 99), 2);
        edges.due("the latest minute counts, not the last told", x.near(0, 0, 100), 1);
        x.step(0, 100, 3, 0);
        edges.due("of two in one minute the one told last", x.near(0, 0, 100), 3);
        x.step(0, 100, 1, 0);
        edges.due("of three in one minute the one told last", x.near(0, 0, 2879), 1);
        x.step(0, 0, 5, 0);
        edges.due("a step in minute 0", x.near(0, 0, 0), 5);
        edges.due("till the next one", x.near(0, 0, 49), 5);
        x.step(0, 2879, 6, 0);
        edges.due("a step in the last minute", x.near(0, 0, 2879), 6);
        edges.due("in the minute ahead of that", x.near(0, 0, 2878), 1);
        x.step(0, 2879, 0, 0);
        edges.due("a step to the spot itself", x.near(0, 0, 2879), 0);
    }

    private void near() {
        edges.term("NEAR: steps along x and y from there to the spot of a BODY.");
        WhoCommands x = new WhoCommands();
        x.body(NONE, 0, 0, 99);
        x.body(NONE, 0, 99, 0);
        x.body(NONE, 0, 99, 99);
        x.person(0, 0, 0, 0, 0);
        edges.due("none", x.near(0, 0, 0), 0);
        edges.due("all of both", x.near(0, 1, 0), 198);
        edges.due("all of x", x.near(0, 2, 0), 99);
        x.step(0, 0, 98, 97);
        edges.due("up", x.near(0, 2, 0), 3);
        edges.due("up and down", x.near(0, 1, 0), 98);
        edges.due("down and up", x.near(0, 0, 0), 100);

        edges.promise(5, "NEAR; NONE without these.");
        edges.in(Worlds::rich);
        edges.asked("near of", 0, 0, 5, 25, NONE, (y, n) -> y.near(n, 0, 0));
        edges.asked("near to", 0, 0, 3, 100, NONE, (y, n) -> y.near(0, n, 0));
        edges.asked("near in", 0, 25, 2879, 98, NONE, (y, n) -> y.near(5, 0, n));
    }

    private void papers() {
        edges.promise(6, "A PAPER: its number; NONE: there are 24, or something is not as told.");
        edges.in(Worlds::rich);
        edges.limits("a paper of", 0, 5, 2, NONE, (x, n) -> x.paper(n, 0, 0, 1));
        edges.limits("a paper for", 0, 3, 2, NONE, (x, n) -> x.paper(0, n, 0, 1));
        edges.limits("a paper from 2000 till", 2001, 2879, 2, NONE, (x, n) -> x.paper(0, 0, 2000, n));
        WhoCommands y = new WhoCommands();
        Worlds.one(y);
        for (int n = 0; n < 24; n++) {
            edges.due("paper " + n, y.paper(0, 0, 7, 8), n);
        }
        edges.in(Worlds::allPapers);
        edges.leaves("a twenty-fifth paper", NONE, z -> z.paper(0, 0, 0, 2879));
        WhoCommands last = new WhoCommands();
        Worlds.allPapers(last);
        Check.law(last, "first paper");
        last.rules(0, 1);
        edges.due("the last of twenty-four holds", last.commands(0, 32), 1);
        edges.due("it holds no more", last.commands(0, 33), 0);
    }

    private void paperHolds() {
        edges.term("PAPERS 0 to 23: a PERSON shall have a BODY from a MINUTE till another one, later "
                + "(it holds from the one on, ahead of the other).");
        WhoCommands x = new WhoCommands();
        Worlds.one(x);
        x.body(0, 0, 0, 0);
        x.person(0, 0, 0, 0, 0);
        Check.law(x, "first paper");
        x.rules(0, 1);
        x.paper(1, 0, 10, 11);
        edges.due("in the minute ahead of the one", x.commands(0, 9), 0);
        edges.due("in the one", x.commands(0, 10), 1);
        edges.due("in the other", x.commands(0, 11), 0);
        x.paper(1, 0, 11, 2879);
        edges.due("a second paper from there on", x.commands(0, 11), 1);
        edges.due("in the last minute but one", x.commands(0, 2878), 1);
        edges.due("no paper holds in the last minute", x.commands(0, 2879), 0);
        x.paper(1, 0, 0, 1);
        edges.due("from minute 0 on", x.commands(0, 0), 1);
        edges.due("till minute 1", x.commands(0, 1), 0);
        x.paper(1, 1, 0, 2879);
        edges.due("a paper for another body does not hold here", x.commands(0, 5), 0);
        edges.in(Worlds::rich);
        edges.leaves("a paper till the minute from which on", NONE, y -> y.paper(0, 0, 5, 5));
        edges.leaves("a paper till the minute ahead of that", NONE, y -> y.paper(0, 0, 5, 4));
    }

    private void lists() {
        edges.term("The LIST of a BODY: 8 PEOPLE at most, none twice, in the order told.");
        WhoCommands x = new WhoCommands();
        Worlds.allOfLists(x);
        Check.law(x, "first list");
        x.rules(0, 1);
        for (int place = 0; place < 8; place++) {
            edges.due("place " + place + " is in the order told", x.brief(0, 0, 8, place), 8 - place);
        }
        edges.due("the last of the list goes ahead of him who is not on it", x.ahead(0, 1, 0, 0, 0), 1);

        edges.promise(7, "A PERSON comes on the LIST of a BODY: his place (from 1 on); "
                + "NONE: 8 are on it, he is, or something is not as told.");
        edges.in(Worlds::allOfLists);
        edges.leaves("a ninth", NONE, y -> y.list(0, 0));
        edges.leaves("a ninth of another list", NONE, y -> y.list(1, 8));
        edges.leaves("one who is on the full list", NONE, y -> y.list(0, 8));
        edges.in(Worlds::rich);
        edges.leaves("the first of a list again", NONE, y -> y.list(0, 2));
        edges.leaves("the last of a list again", NONE, y -> y.list(0, 0));
        edges.takes("one who is on another list alone", 3, y -> y.list(0, 1));
        edges.takes("the list of 0", 3, y -> y.list(0, 3));
        edges.takes("the list of 3", 1, y -> y.list(3, 3));
        edges.beyond("the list of", 0, 3, NONE, (y, n) -> y.list(n, 3));
        edges.limits("the first place for", 0, 5, 1, NONE, (y, n) -> y.list(3, n));
        WhoCommands all = new WhoCommands();
        Worlds.allBodies(all);
        for (int n = 0; n < 8; n++) {
            all.person(0, 0, 0, 0, 0);
        }
        for (int n = 0; n < 96; n++) {
            edges.due("place on the list of " + n % 12, all.list(n % 12, n / 12), n / 12 + 1);
        }
    }

    private void falls() {
        edges.term("FALLS: a PERSON falls in a MINUTE, once; he is FALLEN from it on.");
        WhoCommands x = new WhoCommands();
        Worlds.one(x);
        x.person(0, 0, 0, 0, 0);
        x.person(0, 0, 0, 0, 0);
        edges.due("a fall in a minute", x.falls(1, 1000), true);
        edges.due("in the minute ahead of it", x.may(0, 999), 0b111);
        edges.due("in it", x.may(0, 1000), 0b101);
        edges.due("to the end", x.may(0, 2879), 0b101);
        edges.due("a fall in the first minute", x.falls(0, 0), true);
        edges.due("he is fallen in it", x.may(0, 0), 0b110);
        edges.due("a fall in the last minute", x.falls(2, 2879), true);
        edges.due("in the minute ahead of the last", x.may(0, 2878), 0b100);
        edges.due("in the last", x.may(0, 2879), 0);

        edges.promise(8, "A FALL: true; false, and nothing happens, for others, or if he falls already.");
        edges.in(Worlds::rich);
        edges.leaves("a second fall in the same minute", 0, y -> y.falls(0, 30) ? 1 : 0);
        edges.leaves("a second fall, earlier", 0, y -> y.falls(0, 29) ? 1 : 0);
        edges.leaves("a second fall, later", 0, y -> y.falls(0, 31) ? 1 : 0);
        edges.beyond("the fall of", 0, 5, 0, (y, n) -> y.falls(n, 0) ? 1 : 0);
        WhoCommands all = new WhoCommands();
        Worlds.allPeople(all);
        for (int n = 0; n < 24; n++) {
            edges.due("the fall of " + n, all.falls(n, n), true);
        }
        edges.due("all have fallen", all.count(4), 24);
        edges.due("nobody is left", all.commands(0, 23), NONE);
    }
}
