/** Terms, the MARKS of part VI, and promises 35 to 37. */
final class EdgesOfMarks {
    private static final int NONE = WhoCommands.NONE;

    private final Edges edges;

    EdgesOfMarks(Edges edges) {
        this.edges = edges;
    }

    void all() {
        eachIsKept();
        lawsStay();
        toldAnew();
        mark();
        back();
        fullMarks();
        count();
    }

    /** Something is told behind a mark; gone back to, all is as for a twin that was never told it. */
    private void isKept(String what, Edges.Telling telling) {
        WhoCommands x = new WhoCommands();
        Worlds.rich(x);
        x.mark(0);
        telling.to(x);
        edges.due("people when gone back behind " + what, x.back(0), 6);
        WhoCommands twin = new WhoCommands();
        Worlds.rich(twin);
        twin.mark(0);
        edges.alike(what, x, twin);
    }

    private void eachIsKept() {
        edges.term("MARKS 0 to 3: BODIES with their LAWS, PEOPLE, STEPS, PAPERS, LISTS, FALLS, MESSAGES, SIGHT, "
                + "ORDERS, as they are; gone back to, these are as they were");
        isKept("nothing", Worlds::nothing);
        isKept("a body", x -> x.body(0, 3, 9, 9));
        isKept("the law of a body", x -> x.rules(0, 2));
        isKept("no law of a body", x -> x.rules(0, NONE));
        isKept("a person", x -> x.person(9, 0, 0, 0, 0));
        isKept("a step", x -> x.step(0, 0, 99, 99));
        isKept("a paper", x -> x.paper(5, 0, 0, 2879));
        isKept("a list", x -> x.list(0, 3));
        isKept("the list of another", x -> x.list(1, 3));
        isKept("a fall", x -> x.falls(1, 0));
        isKept("a message", x -> x.message(false, 0, 5, 30));
        isKept("sight", x -> x.sight(99));
        isKept("an order", x -> x.order(2, 1, 9, 5, 5, 2879));
        isKept("another mark gone back to", x -> x.back(1));
        isKept("all of them", x -> {
            x.body(0, 3, 9, 9);
            x.person(9, 0, 0, 4, 0);
            x.rules(0, 2);
            x.step(0, 0, 99, 99);
            x.paper(6, 4, 0, 2879);
            x.list(4, 6);
            x.falls(6, 0);
            x.message(true, 2, 6, 0);
            x.sight(0);
            x.order(6, 4, 9, 5, 5, 2879);
        });
    }

    private void lawsStay() {
        edges.term("(LAWS stay).");
        WhoCommands x = new WhoCommands();
        x.mark(0);
        x.body(NONE, 0, 0, 0);
        x.person(0, 0, 0, 0, 0);
        x.mark(3);
        edges.due("a law behind the marks", Check.law(x, "first rank"), 0);
        x.rules(0, 0);
        edges.due("somebody commands", x.commands(0, 0), 0);
        Check.tape(x, "first day");
        x.back(3);
        edges.due("the body has no law again", x.commands(0, 0), NONE);
        edges.due("the law is there", x.count(5), 1);
        edges.due("the tape is as it is", x.count(8), 9);
        edges.due("the body gets the law", x.rules(0, 0), true);
        edges.due("somebody commands again", x.commands(0, 0), 0);
        x.back(0);
        edges.due("the law is there without bodies", x.count(5), 1);
        edges.due("the next law has the next number", x.law(), 1);
        WhoCommands full = new WhoCommands();
        full.mark(0);
        for (int n = 0; n < 8; n++) {
            Check.law(full, "first rank");
        }
        full.back(0);
        edges.due("eight laws stay", full.count(5), 8);
        edges.due("and there is no ninth", Check.law(full, "first rank"), NONE);
    }

    /** What is told anew behind a mark gone back to has nothing of what stood there. */
    private void toldAnew() {
        WhoCommands x = new WhoCommands();
        x.mark(1);
        Worlds.allPapers(x);
        x.body(0, 3, 5, 5);
        x.person(9, 9, 3, 1, 9);
        x.falls(0, 0);
        x.falls(2, 0);
        x.list(0, 1);
        x.back(1);
        edges.due("the first body", x.body(NONE, 1, 7, 7), 0);
        edges.due("it has no law", x.may(0, 0), 0);
        edges.due("the first person", x.person(3, 3, 1, 0, 3), 0);
        x.rules(0, 0);
        edges.due("he has not fallen", x.commands(0, 2879), 0);
        edges.due("he can fall", x.falls(0, 5), true);
        edges.due("he is the first of the list", x.list(0, 0), 1);
        edges.due("the first paper", x.paper(0, 0, 0, 1), 0);
    }

    private void mark() {
        edges.promise(35, "A MARK is made: how many PEOPLE there are; NONE without it.");
        edges.in(Worlds::nothing);
        edges.limits("mark of nothing", 0, 3, 0, NONE, (x, n) -> x.mark(n));
        edges.in(Worlds::rich);
        edges.limits("mark", 0, 3, 6, NONE, (x, n) -> x.mark(n));
        edges.in(Worlds::allPeople);
        edges.limits("mark of twenty-four people", 0, 3, 24, NONE, (x, n) -> x.mark(n));
        WhoCommands x = new WhoCommands();
        x.body(NONE, 0, 0, 0);
        for (int k = 0; k < 4; k++) {
            edges.due("mark " + k, x.mark(k), k);
            x.person(k, 0, 0, 0, 0);
        }
        for (int k = 3; k >= 0; k--) {
            edges.due("back to " + k, x.back(k), k);
        }
        edges.due("mark 3 is as it was made", x.back(3), 3);
        edges.due("it is made anew", x.mark(0), 3);
        x.back(1);
        edges.due("the new one counts", x.back(0), 3);
    }

    private void back() {
        edges.promise(36, "It is gone back to a MARK: how many PEOPLE there are;");
        WhoCommands x = new WhoCommands();
        Worlds.rich(x);
        edges.due("mark 1, made with people alone", x.back(1), 6);
        edges.due("no steps yet", x.count(2), 0);
        edges.due("mark 2, made with all", x.back(2), 6);
        edges.due("all steps", x.count(2), 3);
        edges.due("again", x.back(2), 6);

        edges.promise(36, "NONE, and nothing happens, if it was never made, or without it.");
        edges.in(Worlds::rich);
        edges.leaves("mark 0, never made", NONE, y -> y.back(0));
        edges.leaves("mark 3, never made", NONE, y -> y.back(3));
        edges.beyond("back", 0, 3, NONE, (y, n) -> y.back(n));
        edges.in(Worlds::nothing);
        for (int k = 0; k < 4; k++) {
            int mark = k;
            edges.leaves("mark " + k + " of a new object", NONE, y -> y.back(mark));
        }
    }

    /** Full rows are kept whole, and there is room again if it is gone back to where there was. */
    private void fullMarks() {
        WhoCommands steps = new WhoCommands();
        steps.mark(0);
        Worlds.allSteps(steps);
        steps.mark(1);
        steps.back(0);
        Worlds.one(steps);
        edges.due("steps anew", steps.step(0, 5, 1, 1), 1);
        steps.back(1);
        edges.due("the last of 200 steps", steps.near(0, 0, 199), 99);
        edges.due("no room", steps.step(0, 5, 1, 1), NONE);
        WhoCommands messages = new WhoCommands();
        messages.mark(0);
        Worlds.allMessages(messages);
        messages.mark(1);
        messages.back(0);
        Worlds.one(messages);
        edges.due("messages anew", messages.message(false, 0, 0, 0), 0);
        messages.back(1);
        edges.due("no room", messages.message(false, 0, 0, 0), NONE);
        WhoCommands lists = new WhoCommands();
        lists.mark(0);
        Worlds.allOfLists(lists);
        lists.mark(1);
        lists.back(0);
        Worlds.one(lists);
        edges.due("a list anew", lists.list(0, 0), 1);
        lists.back(1);
        edges.due("no room", lists.list(0, 0), NONE);
        WhoCommands orders = new WhoCommands();
        orders.mark(0);
        Worlds.allOrders(orders);
        orders.mark(1);
        orders.back(0);
        Worlds.one(orders);
        edges.due("orders anew", orders.order(0, 0, 0, 0, 0, 1), 0);
        orders.back(1);
        edges.due("the last of sixty", orders.bound(0, 78), 59);
        edges.due("no room", orders.order(0, 0, 0, 0, 0, 1), NONE);
    }

    private void counts(String what, Edges.Telling told, int... want) {
        WhoCommands x = new WhoCommands();
        told.to(x);
        for (int n = 0; n < want.length; n++) {
            edges.due(what + ", count(" + n + ")", x.count(n), want[n]);
        }
    }

    private void count() {
        edges.promise(37, "What 0: BODIES, 1: PEOPLE, 2: STEPS, 3: PAPERS, 4: FALLS, 5: LAWS, 6: MESSAGES, 7: ORDERS, "
                + "8: bytes of the TAPE.");
        counts("nothing", Worlds::nothing, 0, 0, 0, 0, 0, 0, 0, 0, 0);
        counts("something of all", Worlds::rich, 4, 6, 3, 2, 2, 3, 3, 3, 20);
        counts("all bodies", Worlds::allBodies, 12, 0, 0, 0, 0, 0, 0, 0, 0);
        counts("all people", Worlds::allPeople, 1, 24, 0, 0, 0, 1, 0, 0, 0);
        counts("all steps", Worlds::allSteps, 1, 1, 200, 0, 0, 1, 0, 0, 0);
        counts("all papers", Worlds::allPapers, 1, 2, 0, 24, 0, 1, 0, 0, 0);
        counts("all falls", x -> {
            Worlds.allPeople(x);
            for (int n = 0; n < 24; n++) {
                x.falls(n, 0);
            }
        }, 1, 24, 0, 0, 24, 1, 0, 0, 0);
        counts("all laws", Worlds::allLaws, 1, 2, 0, 0, 0, 8, 0, 0, 10);
        counts("all messages", Worlds::allMessages, 1, 2, 0, 0, 1, 1, 200, 0, 0);
        counts("all orders", Worlds::allOrders, 1, 1, 0, 0, 0, 1, 0, 60, 0);
        counts("a full tape", Worlds::fullTape, 1, 1, 0, 0, 0, 1, 0, 0, 400);

        edges.promise(37, "NONE for others.");
        edges.in(Worlds::rich);
        edges.asked("count of what", 0, 4, 8, 20, NONE, (x, n) -> x.count(n));
    }
}
