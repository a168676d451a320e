/** What objects are told, for tests. */
final class Worlds {
    private static final int NONE = WhoCommands.NONE;

    private Worlds() {
    }

    static void nothing(WhoCommands x) {
        // a new object is told nothing
    }

    /** Body 0 at 0, 0, of service 0, with one person, 0, of the least of all, and a law, 0, by rank. */
    static void one(WhoCommands x) {
        x.body(NONE, 0, 0, 0);
        x.person(0, 0, 0, 0, 0);
        Check.law(x, "first rank");
        x.rules(0, 0);
    }

    /**
     * Something of all: bodies 0, 1 under it, 2 under that, and 3 beside without a law; laws 0 to 2 are
     * those of the bodies 0 to 2; people 0 in 0, 1 and 2 in 1, 3 and 5 in 2, 4 in 3; 3 steps, 2 papers, 2 falls,
     * 3 messages, 3 orders, twenty bytes on the tape, marks 1 and 2. Who commands: 0, 2 and 3, till 0 falls in 30.
     */
    static void rich(WhoCommands x) {
        x.body(NONE, 0, 50, 50);
        x.body(0, 1, 60, 50);
        x.body(1, 2, 60, 65);
        x.body(NONE, 3, 0, 0);
        x.person(7, 100, 0, 0, 0);
        x.person(6, 50, 1, 1, 1);
        x.person(6, 40, 0, 1, 2);
        x.person(5, 40, 2, 2, 3);
        x.person(9, 1, 3, 3, 4);
        x.person(1, 2, 1, 2, 5);
        x.mark(1);
        Check.law(x, "first paper; first rank; first day");
        Check.law(x, "first rank; first day; lapse fallen = 1 and since > 3");
        Check.law(x, "bar own = 0; first near");
        for (int body = 0; body < 3; body++) {
            x.rules(body, body);
        }
        x.step(1, 10, 52, 50);
        x.step(3, 10, 60, 60);
        x.step(5, 20, 99, 99);
        x.paper(3, 0, 40, 60);
        x.paper(2, 1, 5, 15);
        x.list(0, 2);
        x.list(0, 0);
        x.list(1, 1);
        x.falls(0, 30);
        x.falls(5, 2879);
        x.sight(12);
        x.message(false, 0, 3, 35);
        x.message(true, 0, 1, 45);
        x.message(false, 0, 5, NONE);
        x.order(0, 1, 3, 10, 12, 50);
        x.order(1, 1, 4, 11, 15, 40);
        x.order(2, 2, 5, 11, 12, 2879);
        x.mark(2);
        Check.tape(x, "first post if rank<1");
    }

    /** Twelve bodies, each but the first under the one ahead of it. */
    static void allBodies(WhoCommands x) {
        for (int n = 0; n < 12; n++) {
            x.body(n - 1, n % 4, n, n);
        }
    }

    static void allPeople(WhoCommands x) {
        x.body(NONE, 0, 0, 0);
        for (int n = 0; n < 24; n++) {
            x.person(n % 10, n, n % 4, 0, n % 10);
        }
        Check.law(x, "first rank");
        x.rules(0, 0);
    }

    static void allSteps(WhoCommands x) {
        one(x);
        for (int n = 0; n < 200; n++) {
            x.step(0, n, n % 100, 0);
        }
    }

    static void allPapers(WhoCommands x) {
        one(x);
        x.person(9, 0, 0, 0, 0);
        for (int n = 0; n < 24; n++) {
            x.paper(n % 2, 0, n, n + 10);
        }
    }

    /** Nine people, of whom 8 to 1 stand on the list of body 0 and 0 to 7 on that of body 1. */
    static void allOfLists(WhoCommands x) {
        one(x);
        x.body(0, 0, 0, 0);
        for (int n = 1; n <= 8; n++) {
            x.person(n, 0, 0, 0, 0);
        }
        for (int n = 0; n < 8; n++) {
            x.list(0, 8 - n);
            x.list(1, n);
        }
    }

    /** Eight laws, of which those of even numbers make 1 command body 0, by rank, and the others 0, by day. */
    static void allLaws(WhoCommands x) {
        x.body(NONE, 0, 0, 0);
        x.person(1, 1, 0, 0, 0);
        x.person(2, 2, 0, 0, 0);
        for (int n = 0; n < 8; n++) {
            Check.law(x, n % 2 == 0 ? "first rank" : "first day");
        }
        x.rules(0, 0);
        Check.tape(x, "first post");
    }

    static void allMessages(WhoCommands x) {
        one(x);
        x.person(9, 0, 0, 0, 0);
        x.falls(1, 5);
        for (int n = 0; n < 200; n++) {
            x.message(false, n % 2, 0, n % 3 == 0 ? NONE : n);
        }
    }

    static void allOrders(WhoCommands x) {
        one(x);
        for (int n = 0; n < 60; n++) {
            x.order(0, 0, n % 10, n, n, n + 20);
        }
    }

    static void fullTape(WhoCommands x) {
        one(x);
        Check.tape(x, "first own" + " ".repeat(391));
    }
}
