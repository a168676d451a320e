/** Terms, part IV, and promises 21 to 26: ORDERS, by whom a BODY is BOUND, who ANSWERS. */
final class EdgesOfOrders {
    private static final int NONE = WhoCommands.NONE;

    private final Edges edges;

    EdgesOfOrders(Edges edges) {
        this.edges = edges;
    }

    void all() {
        orders();
        order();
        seats();
        highestSeat();
        seat();
        inForce();
        lapses();
        lapsesOfBody();
        force();
        highestBinds();
        lastBinds();
        bound();
        crosses();
        cross();
        whoAnswers();
        answers();
    }

    /** Bodies 0, 1 under it, 2 under that; in each one person of that number, who commands it by rank. */
    private static void chain(WhoCommands x) {
        chain(x, "first paper; first rank");
    }

    private static void chain(WhoCommands x, String law) {
        x.body(NONE, 0, 0, 0);
        x.body(0, 0, 10, 0);
        x.body(1, 0, 20, 0);
        for (int n = 0; n < 3; n++) {
            x.person(9 - n, 0, 0, n, 0);
        }
        Check.law(x, law);
        for (int body = 0; body < 3; body++) {
            x.rules(body, 0);
        }
    }

    private static WhoCommands chained() {
        WhoCommands x = new WhoCommands();
        chain(x);
        return x;
    }

    private void orders() {
        edges.term("ORDERS 0 to 59: by a PERSON to a BODY, to do a thing (0 to 9), given in a MINUTE, "
                + "coming in one not ahead of it, until one behind that in which it was given.");
        edges.in(Worlds::rich);
        edges.limits("an order by", 0, 5, 3, NONE, (x, n) -> x.order(n, 0, 0, 5, 5, 6));
        edges.limits("an order to", 0, 3, 3, NONE, (x, n) -> x.order(0, n, 0, 5, 5, 6));
        edges.limits("an order to do", 0, 9, 3, NONE, (x, n) -> x.order(0, 0, n, 5, 5, 6));
        edges.limits("given with minute 100 to come, in", 0, 100, 3, NONE, (x, n) -> x.order(0, 0, 0, n, 100, 2879));
        edges.limits("given ahead of minute 100, in", 0, 99, 3, NONE, (x, n) -> x.order(0, 0, 0, n, 2879, 100));
        edges.limits("given in minute 100, coming in", 100, 2879, 3, NONE, (x, n) -> x.order(0, 0, 0, 100, n, 200));
        edges.limits("given in minute 100, until", 101, 2879, 3, NONE, (x, n) -> x.order(0, 0, 0, 100, 100, n));
        edges.takes("coming in that until which it is", 3, x -> x.order(0, 0, 0, 100, 110, 110));
        edges.takes("coming behind that until which it is", 3, x -> x.order(0, 0, 0, 100, 111, 110));
    }

    private void order() {
        edges.promise(21, "An ORDER: its number; NONE: there are 60, or something is not as told.");
        WhoCommands x = chained();
        for (int n = 0; n < 60; n++) {
            edges.due("order " + n, x.order(0, 0, n % 10, n, n, n + 1), n);
        }
        edges.due("the last of sixty binds", x.bound(0, 59), 59);
        edges.due("it tells 9", x.answers(0, 59, 9), 0);
        edges.in(Worlds::allOrders);
        edges.leaves("a sixty-first order", NONE, y -> y.order(0, 0, 0, 0, 0, 2879));
        edges.in(Worlds::rich);
        edges.leaves("an order that is lost", NONE, y -> y.order(0, 0, 0, 0, NONE, 5));
        edges.leaves("an order that comes ahead of its giving", NONE, y -> y.order(0, 0, 0, 5, 4, 6));
        edges.leaves("an order until its giving", NONE, y -> y.order(0, 0, 0, 5, 5, 5));
        edges.leaves("an order until what is ahead of its giving", NONE, y -> y.order(0, 0, 0, 5, 5, 4));
        edges.leaves("an order by nobody", NONE, y -> y.order(NONE, 0, 0, 5, 5, 6));
        edges.leaves("an order to no body", NONE, y -> y.order(0, NONE, 0, 5, 5, 6));
    }

    private void seats() {
        edges.term("Its SEAT: the BODY that its giver commands in the MINUTE in which it is given,");
        WhoCommands x = chained();
        x.order(2, 2, 0, 10, 2879, 2879);
        x.order(1, 2, 0, 9, 9, 10);
        x.order(1, 2, 0, 10, 10, 11);
        x.order(0, 2, 0, 0, 0, 1);
        edges.due("his own body", x.seat(0), 2);
        edges.due("the body above it", x.seat(1), 1);
        edges.due("the highest", x.seat(3), 0);
        x.falls(1, 10);
        edges.due("given in the minute ahead of his fall", x.seat(1), 1);
        edges.due("given in his fall", x.seat(2), NONE);
        edges.due("given in the fall of him above, whom he follows", x.seat(0), 1);
        x.paper(2, 0, 11, 12);
        edges.due("a paper from the minute behind it on", x.seat(0), 1);
        x.paper(2, 0, 10, 11);
        edges.due("a paper that holds in that minute alone", x.seat(0), 0);
    }

    private void highestSeat() {
        edges.term("of that BODY and those above it, the highest; none without.");
        WhoCommands x = chained();
        x.body(NONE, 0, 0, 0);
        x.person(9, 0, 0, 3, 0);
        x.rules(3, 0);
        x.order(2, 2, 0, 10, 10, 20);
        x.order(2, 1, 0, 10, 10, 20);
        x.order(2, 0, 0, 10, 10, 20);
        x.order(3, 2, 0, 10, 10, 20);
        x.order(1, 0, 0, 10, 10, 20);
        edges.due("he commands a body below that to which it goes", x.seat(1), NONE);
        edges.due("he commands a body beside", x.seat(3), NONE);
        edges.due("he commands the one below the highest", x.seat(4), NONE);
        x.paper(2, 0, 10, 11);
        edges.due("he commands the lowest and the highest, the one between not", x.seat(0), 0);
        edges.due("to the one between", x.seat(1), 0);
        edges.due("to the highest", x.seat(2), 0);
        x.rules(0, NONE);
        edges.due("nobody commands the highest without a law", x.seat(0), 2);
        edges.due("nothing that he commands is above", x.seat(1), NONE);
        WhoCommands deep = new WhoCommands();
        Worlds.allBodies(deep);
        deep.person(0, 0, 0, 11, 0);
        Check.law(deep, "first rank");
        deep.rules(11, 0);
        deep.order(0, 11, 0, 0, 0, 1);
        edges.due("the lowest of twelve", deep.seat(0), 11);
        deep.rules(0, 0);
        edges.due("the highest of twelve", deep.seat(0), 0);
    }

    private void seat() {
        edges.promise(22, "SEAT of an ORDER; NONE without one; -2 without it.");
        edges.in(Worlds::rich);
        edges.asked("seat of", 0, 0, 2, 1, -2, (x, n) -> x.seat(n));
        edges.leaves("an order without a seat", NONE, x -> x.seat(1));
        edges.in(Worlds::allOrders);
        edges.asked("seat of", 0, 0, 59, 0, -2, (x, n) -> x.seat(n));
    }

    private void inForce() {
        edges.term("IN FORCE in a MINUTE: it has a SEAT, has come, the MINUTE is ahead of until,");
        WhoCommands x = chained();
        x.order(0, 2, 0, 10, 12, 20);
        edges.due("in the minute ahead of its coming", x.force(0, 11), 0);
        edges.due("in that of its coming", x.force(0, 12), 1);
        edges.due("in the minute ahead of until", x.force(0, 19), 1);
        edges.due("in that until which it is", x.force(0, 20), 0);
        x.order(1, 0, 0, 10, 10, 20);
        edges.due("it has no seat", x.force(1, 10), 0);
        x.order(0, 0, 0, 0, 0, 1);
        edges.due("in the first minute", x.force(2, 0), 1);
        edges.due("in the minute behind it", x.force(2, 1), 0);
        x.order(0, 0, 0, 2878, 2878, 2879);
        edges.due("in the last minute but one", x.force(3, 2878), 1);
        edges.due("none is in force in the last minute", x.force(3, 2879), 0);
        x.order(0, 0, 0, 5, 8, 8);
        edges.due("it comes in that until which it is", x.force(4, 8), 0);
        edges.due("ahead of that it has not come", x.force(4, 7), 0);
        x.falls(0, 15);
        edges.due("its giver has fallen, without a lapse", x.force(0, 19), 1);
        x.paper(2, 0, 11, 12);
        edges.due("he does not command the minute behind its giving", x.force(0, 12), 1);
    }

    /** Whether the ORDER of 0 to body 1, to do 4, given in 10, which comes in 10, is IN FORCE with a lapse. */
    private void lapse(String test, int minute, int want) {
        WhoCommands x = new WhoCommands();
        chain(x, "first rank; lapse " + test);
        x.step(0, 11, 99, 99);
        x.paper(0, 1, 11, 13);
        x.list(1, 2);
        x.list(1, 0);
        x.falls(0, 15);
        x.order(0, 1, 4, 10, 10, 20);
        edges.due("force in " + minute + " with lapse " + test, x.force(0, minute), want);
    }

    private void lapses() {
        edges.term("and no lapse of the LAW of the BODY holds of its giver, the BODY and the MINUTE,");
        lapse("1=2", 10, 1);
        lapse("1=1", 10, 0);
        lapse("minute = 12", 11, 1);
        lapse("minute = 12", 12, 0);
        lapse("minute = 12", 13, 1);
        lapse("rank = 9", 10, 0);
        lapse("rank < 9", 10, 1);
        lapse("near = 10", 10, 0);
        lapse("near = 188", 11, 0);
        lapse("paper = 1", 10, 1);
        lapse("paper = 1", 11, 0);
        lapse("paper = 1", 12, 0);
        lapse("paper = 1", 13, 1);
        lapse("listed = 2", 10, 0);
        lapse("depth = 0", 10, 0);
        lapse("1=2; lapse 1=1", 10, 0);
        lapse("1=2; bar minute > 10", 11, 1);

        edges.term("with fallen: 1 if the giver is FALLEN then,");
        lapse("fallen = 1", 14, 1);
        lapse("fallen = 1", 15, 0);
        lapse("fallen = 1", 19, 0);
        lapse("fallen = 0", 14, 0);
        lapse("fallen = 0", 15, 1);

        edges.term("since: MINUTES since it was given,");
        lapse("since = 0", 10, 0);
        lapse("since > 0", 10, 1);
        lapse("since > 0", 11, 0);
        lapse("since = 9", 19, 0);
        lapse("since > 9", 19, 1);

        edges.term("doing: the thing.");
        lapse("doing = 4", 10, 0);
        lapse("doing = 3", 10, 1);
        lapse("doing = 5", 10, 1);
        for (int thing = 0; thing <= 9; thing += 9) {
            WhoCommands x = new WhoCommands();
            chain(x, "first rank; lapse doing = " + thing);
            x.order(0, 0, thing, 0, 0, 5);
            x.order(0, 0, 5, 0, 0, 5);
            edges.due("thing " + thing + " lapses", x.force(0, 0), 0);
            edges.due("another does not", x.force(1, 0), 1);
        }
        WhoCommands late = new WhoCommands();
        chain(late, "first rank; lapse since = 2878");
        late.order(0, 0, 0, 0, 0, 2879);
        edges.due("the longest since but one", late.force(0, 2877), 1);
        edges.due("the longest since", late.force(0, 2878), 0);
    }

    /** The law of the body to which it goes tells what lapses, not that of its seat. */
    private void lapsesOfBody() {
        WhoCommands x = chained();
        Check.law(x, "first paper; first rank; lapse 1=1");
        x.order(0, 1, 0, 10, 10, 20);
        x.rules(0, 1);
        edges.due("the law of the seat has a lapse", x.force(0, 10), 1);
        x.rules(1, 1);
        edges.due("the law of the body has a lapse", x.force(0, 10), 0);
        x.rules(1, NONE);
        edges.due("the body has no law", x.force(0, 10), 1);
    }

    private void force() {
        edges.promise(23, "1 if an ORDER is IN FORCE, 0 if not; NONE without these.");
        edges.in(Worlds::rich);
        edges.asked("force of", 0, 1, 2, 1, NONE, (x, n) -> x.force(n, 12));
        edges.asked("force in", 0, 0, 2879, 0, NONE, (x, n) -> x.force(0, n));
        edges.leaves("without a seat", 0, x -> x.force(1, 15));
        edges.in(Worlds::allOrders);
        edges.asked("force of", 0, 0, 59, 1, NONE, (x, n) -> x.force(n, 59));
    }

    private void highestBinds() {
        edges.term("BOUND is a BODY by the one IN FORCE with the highest SEAT;");
        WhoCommands x = chained();
        x.order(0, 2, 1, 5, 12, 20);
        x.order(1, 2, 2, 9, 11, 21);
        x.order(2, 2, 3, 10, 10, 22);
        x.order(2, 1, 4, 10, 10, 30);
        x.order(0, 0, 5, 10, 10, 30);
        edges.due("none has come", x.bound(2, 9), NONE);
        edges.due("the one that has come", x.bound(2, 10), 2);
        edges.due("a higher one, told and given ahead of it", x.bound(2, 11), 1);
        edges.due("the highest", x.bound(2, 12), 0);
        edges.due("in its last minute", x.bound(2, 19), 0);
        edges.due("behind it", x.bound(2, 20), 1);
        edges.due("behind the second", x.bound(2, 21), 2);
        edges.due("behind all", x.bound(2, 22), NONE);
        edges.due("an order without a seat does not bind", x.bound(1, 12), NONE);
        edges.due("an order to the body above is its own", x.bound(0, 12), 4);
    }

    private void lastBinds() {
        edges.term("of several the one given last; of several the last told.");
        WhoCommands x = chained();
        x.order(0, 0, 1, 8, 10, 20);
        x.order(0, 0, 2, 9, 10, 18);
        x.order(0, 0, 3, 9, 10, 16);
        x.order(0, 0, 4, 8, 15, 20);
        edges.due("of two given last the last told", x.bound(0, 10), 2);
        edges.due("one that comes last and was given ahead of them", x.bound(0, 15), 2);
        edges.due("the other of the two", x.bound(0, 16), 1);
        edges.due("of those given ahead the last told", x.bound(0, 18), 3);
        edges.due("behind all", x.bound(0, 20), NONE);
    }

    private void bound() {
        edges.promise(24, "The ORDER by which a BODY is BOUND; NONE: by none; -2 without these.");
        edges.in(Worlds::rich);
        edges.asked("bound is", 0, NONE, 3, NONE, -2, (x, n) -> x.bound(n, 12));
        edges.asked("bound in", 0, NONE, 2879, NONE, -2, (x, n) -> x.bound(2, n));
        edges.leaves("by the first", 0, x -> x.bound(1, 12));
        edges.leaves("by the last", 2, x -> x.bound(2, 2878));
        edges.in(Worlds::allOrders);
        edges.leaves("by the first of sixty", 0, x -> x.bound(0, 0));
        edges.leaves("by the last of sixty", 59, x -> x.bound(0, 78));
        edges.leaves("by none of sixty", NONE, x -> x.bound(0, 79));
    }

    private void crosses() {
        edges.term("CROSS: how many pairs IN FORCE for a BODY tell unlike things.");
        WhoCommands x = chained();
        edges.due("none is told", x.cross(0, 10), 0);
        x.order(0, 0, 0, 10, 10, 20);
        edges.due("one", x.cross(0, 10), 0);
        x.order(0, 0, 0, 10, 10, 19);
        edges.due("two that tell the same", x.cross(0, 10), 0);
        x.order(0, 0, 9, 10, 11, 20);
        edges.due("a third that has not come", x.cross(0, 10), 0);
        edges.due("a third that tells another thing", x.cross(0, 11), 2);
        edges.due("the second has ended", x.cross(0, 19), 1);
        edges.due("all have ended", x.cross(0, 20), 0);
        x.order(1, 0, 5, 10, 11, 20);
        edges.due("one without a seat", x.cross(0, 11), 2);
        x.order(0, 1, 5, 10, 11, 20);
        edges.due("one to another body", x.cross(0, 11), 2);
        x.order(0, 0, 5, 10, 11, 20);
        edges.due("three things", x.cross(0, 11), 5);
        WhoCommands most = chained();
        for (int n = 0; n < 60; n++) {
            most.order(0, 0, n % 10, 0, 0, 5);
        }
        edges.due("the most of sixty", most.cross(0, 0), 1620);
        WhoCommands same = chained();
        for (int n = 0; n < 60; n++) {
            same.order(0, 0, 9, 0, 0, 5);
        }
        edges.due("sixty that tell the same", same.cross(0, 0), 0);
    }

    private void cross() {
        edges.promise(25, "CROSS; NONE without these.");
        edges.in(Worlds::allOrders);
        edges.asked("cross of", 0, 0, 0, 0, NONE, (x, n) -> x.cross(n, 0));
        edges.asked("cross in", 0, 0, 2879, 0, NONE, (x, n) -> x.cross(0, n));
        edges.leaves("two", 1, x -> x.cross(0, 1));
        edges.in(Worlds::rich);
        edges.asked("cross of", 0, 0, 3, 0, NONE, (x, n) -> x.cross(n, 15));
    }

    private void whoAnswers() {
        edges.term("ANSWERS for a thing that a BODY did in a MINUTE: the giver of the ORDER by which it is BOUND, "
                + "if that tells it; else who COMMANDS.");
        WhoCommands x = chained();
        edges.due("no order", x.answers(2, 10, 0), 2);
        x.order(0, 2, 0, 10, 11, 20);
        x.order(1, 2, 9, 10, 11, 30);
        edges.due("it has not come", x.answers(2, 10, 0), 2);
        edges.due("it tells it", x.answers(2, 11, 0), 0);
        edges.due("another order tells it, by which it is not bound", x.answers(2, 11, 9), 2);
        edges.due("none tells it", x.answers(2, 11, 5), 2);
        edges.due("in its last minute", x.answers(2, 19, 0), 0);
        edges.due("it has ended, the other binds", x.answers(2, 20, 0), 2);
        edges.due("the other tells it", x.answers(2, 20, 9), 1);
        x.falls(1, 25);
        edges.due("its giver has fallen", x.answers(2, 25, 9), 1);
        x.falls(2, 26);
        edges.due("nobody commands", x.answers(2, 26, 0), NONE);
        edges.due("behind all", x.answers(2, 30, 9), NONE);
        x.rules(2, NONE);
        edges.due("without a law", x.answers(2, 9, 0), NONE);
        edges.due("without a law, by the order", x.answers(2, 11, 0), 0);
    }

    private void answers() {
        edges.promise(26, "Who ANSWERS (NONE: nobody); -2 without these.");
        edges.in(Worlds::rich);
        edges.asked("answers for", 0, 0, 3, NONE, -2, (x, n) -> x.answers(n, 12, 0));
        edges.asked("answers in", 0, 0, 2879, 2, -2, (x, n) -> x.answers(0, n, 0));
        edges.asked("answers for thing", 0, 2, 9, 2, -2, (x, n) -> x.answers(1, 12, n));
        edges.leaves("the giver", 0, x -> x.answers(1, 12, 3));
    }
}
