/** Promises 21 to 26: order, seat, force, bound, cross, answers. */
public final class OrdersTest {
    private static final int NONE = WhoCommands.NONE;
    private static final Check CHECK = new Check();

    /** Three bodies, each under the one ahead of it, and one person in each: 0 commands 0, 1 commands 1, 2 commands 2. */
    private static WhoCommands chain(String law) {
        WhoCommands x = new WhoCommands();
        x.body(NONE, 0, 0, 0);
        x.body(0, 0, 10, 0);
        x.body(1, 1, 20, 0);
        x.person(9, 0, 0, 0, 0);
        x.person(8, 0, 0, 1, 0);
        x.person(7, 0, 1, 2, 0);
        CHECK.due("law " + law, Check.law(x, law), 0);
        x.rules(0, 0);
        x.rules(1, 0);
        x.rules(2, 0);
        return x;
    }

    private static void orders() {
        WhoCommands x = chain("first rank");
        CHECK.due("the widest", x.order(0, 0, 0, 0, 2879, 2879), 0);
        CHECK.due("the narrowest", x.order(2, 2, 9, 2878, 2878, 2879), 1);
        CHECK.due("giver 3", x.order(3, 0, 0, 1, 2, 3), NONE);
        CHECK.due("giver -1", x.order(-1, 0, 0, 1, 2, 3), NONE);
        CHECK.due("body 3", x.order(0, 3, 0, 1, 2, 3), NONE);
        CHECK.due("body -1", x.order(0, -1, 0, 1, 2, 3), NONE);
        CHECK.due("thing 10", x.order(0, 0, 10, 1, 2, 3), NONE);
        CHECK.due("thing -1", x.order(0, 0, -1, 1, 2, 3), NONE);
        CHECK.due("given -1", x.order(0, 0, 0, -1, 2, 3), NONE);
        CHECK.due("given 2880", x.order(0, 0, 0, 2880, 2880, 2881), NONE);
        CHECK.due("comes ahead of given", x.order(0, 0, 0, 1, 0, 3), NONE);
        CHECK.due("comes NONE", x.order(0, 0, 0, 0, NONE, 3), NONE);
        CHECK.due("comes 2880", x.order(0, 0, 0, 1, 2880, 3), NONE);
        CHECK.due("until given", x.order(0, 0, 0, 1, 2, 1), NONE);
        CHECK.due("until 2880", x.order(0, 0, 0, 1, 2, 2880), NONE);
        CHECK.due("ends ahead of its coming", x.order(0, 0, 0, 1, 5, 3), 2);
        CHECK.due("and never has force", x.force(2, 5), 0);
        for (int n = 3; n < 60; n++) {
            CHECK.due("order " + n, x.order(n % 3, n % 3, n % 10, n, n, n + 1), n);
        }
        CHECK.due("an order too many", x.order(0, 0, 0, 1, 2, 3), NONE);
        CHECK.due("orders", x.count(7), 60);
    }

    private static void seats() {
        WhoCommands x = chain("first paper; first rank");
        x.order(2, 2, 0, 5, 5, 9);
        x.order(1, 2, 0, 5, 5, 9);
        x.order(0, 2, 0, 5, 5, 9);
        x.order(1, 0, 0, 5, 5, 9);
        CHECK.due("of his own", x.seat(0), 2);
        CHECK.due("one above", x.seat(1), 1);
        CHECK.due("two above", x.seat(2), 0);
        CHECK.due("none", x.seat(3), NONE);
        x.paper(2, 0, 5, 6);
        CHECK.due("the highest of two that he commands", x.seat(0), 0);
        CHECK.due("no more", x.seat(2), NONE);
        x.falls(2, 5);
        CHECK.due("the fallen command nothing", x.seat(0), NONE);
        CHECK.due("again", x.seat(2), 0);
        CHECK.due("order 4", x.seat(4), -2);
        CHECK.due("order -1", x.seat(-1), -2);
        x.rules(0, NONE);
        CHECK.due("without a law", x.seat(2), NONE);
    }

    private static void forces() {
        WhoCommands x = chain("first rank; lapse fallen = 1 and since > 5; lapse doing = 7 and since >= 3");
        x.order(0, 2, 1, 10, 12, 30);
        x.order(0, 2, 7, 10, 10, 30);
        x.order(1, 0, 1, 10, 12, 30);
        CHECK.due("ahead of its coming", x.force(0, 11), 0);
        CHECK.due("in its coming", x.force(0, 12), 1);
        CHECK.due("at its end", x.force(0, 29), 1);
        CHECK.due("behind its end", x.force(0, 30), 0);
        CHECK.due("without a seat", x.force(2, 12), 0);
        CHECK.due("doing, at once", x.force(1, 10), 1);
        CHECK.due("doing, two on", x.force(1, 12), 1);
        CHECK.due("doing, three on", x.force(1, 13), 0);
        x.falls(0, 14);
        CHECK.due("fallen, five on", x.force(0, 15), 1);
        CHECK.due("fallen, six on", x.force(0, 16), 0);
        x.rules(2, NONE);
        CHECK.due("without a law nothing lapses", x.force(0, 16), 1);
        CHECK.due("order 3", x.force(3, 10), NONE);
        CHECK.due("order -1", x.force(-1, 10), NONE);
        CHECK.due("minute -1", x.force(0, -1), NONE);
        CHECK.due("minute 2880", x.force(0, 2880), NONE);
    }

    /** In a lapse all words are of the giver, the body and the minute. */
    private static void lapse(String test, int force) {
        WhoCommands x = chain("first rank; lapse " + test);
        x.list(2, 0);
        x.paper(0, 2, 11, 12);
        x.order(0, 2, 4, 10, 10, 20);
        CHECK.due("force with lapse " + test, x.force(0, 11), force);
    }

    private static void lapses() {
        lapse("rank = 9", 0);
        lapse("rank < 9", 1);
        lapse("near = 20", 0);
        lapse("own = 1", 1);
        lapse("listed = 1", 0);
        lapse("depth = 0", 0);
        lapse("paper = 1", 0);
        lapse("minute = 11 and since = 1 and doing = 4 and fallen = 0", 0);
    }

    private static void bounds() {
        WhoCommands x = chain("first rank");
        CHECK.due("by none", x.bound(2, 20), NONE);
        x.order(2, 2, 1, 9, 10, 100);
        x.order(0, 2, 2, 5, 12, 50);
        x.order(1, 2, 3, 9, 11, 60);
        x.order(0, 2, 4, 6, 13, 40);
        x.order(0, 2, 5, 6, 14, 30);
        x.order(0, 1, 6, 6, 6, 100);
        x.order(1, 0, 6, 6, 6, 100);
        CHECK.due("ahead of all", x.bound(2, 9), NONE);
        CHECK.due("the own", x.bound(2, 10), 0);
        CHECK.due("a higher one", x.bound(2, 11), 2);
        CHECK.due("the highest, given earlier", x.bound(2, 12), 1);
        CHECK.due("as high, given last", x.bound(2, 13), 3);
        CHECK.due("given alike, told last", x.bound(2, 14), 4);
        CHECK.due("that has ended", x.bound(2, 30), 3);
        CHECK.due("and that", x.bound(2, 40), 1);
        CHECK.due("and that, too", x.bound(2, 50), 2);
        CHECK.due("the own again", x.bound(2, 60), 0);
        CHECK.due("another body", x.bound(1, 20), 5);
        CHECK.due("an order without a seat", x.bound(0, 20), NONE);
        CHECK.due("body 3", x.bound(3, 0), -2);
        CHECK.due("body -1", x.bound(-1, 0), -2);
        CHECK.due("minute -1", x.bound(0, -1), -2);
        CHECK.due("minute 2880", x.bound(0, 2880), -2);
        int[][] crosses = {{9, 0}, {10, 0}, {11, 1}, {12, 3}, {13, 6}, {14, 10}, {50, 1}, {60, 0}};
        for (int[] cross : crosses) {
            CHECK.due("cross(2, " + cross[0] + ")", x.cross(2, cross[0]), cross[1]);
        }
        x.order(2, 2, 5, 9, 14, 100);
        CHECK.due("two that tell one thing do not cross", x.cross(2, 14), 14);
        CHECK.due("cross of body 3", x.cross(3, 0), NONE);
        CHECK.due("cross of body -1", x.cross(-1, 0), NONE);
        CHECK.due("cross in minute -1", x.cross(0, -1), NONE);
        CHECK.due("cross in minute 2880", x.cross(0, 2880), NONE);
    }

    /** Given earlier but told later: the one given last binds. */
    private static void givenLast() {
        WhoCommands x = chain("first rank");
        x.order(0, 2, 1, 8, 8, 100);
        x.order(0, 2, 2, 7, 7, 100);
        CHECK.due("given last", x.bound(2, 8), 0);
        x.order(0, 2, 3, 8, 8, 100);
        CHECK.due("told last of these", x.bound(2, 8), 2);
    }

    private static void answers() {
        WhoCommands x = chain("first rank");
        x.order(0, 2, 4, 5, 6, 10);
        CHECK.due("ahead of the order", x.answers(2, 5, 4), 2);
        CHECK.due("what it tells", x.answers(2, 6, 4), 0);
        CHECK.due("what it does not tell", x.answers(2, 6, 3), 2);
        x.falls(2, 7);
        CHECK.due("nobody", x.answers(2, 7, 3), NONE);
        CHECK.due("but for the order", x.answers(2, 7, 4), 0);
        CHECK.due("thing 10", x.answers(2, 6, 10), -2);
        CHECK.due("thing -1", x.answers(2, 6, -1), -2);
        CHECK.due("body 3", x.answers(3, 6, 0), -2);
        CHECK.due("body -1", x.answers(-1, 6, 0), -2);
        CHECK.due("minute -1", x.answers(2, -1, 0), -2);
        CHECK.due("minute 2880", x.answers(2, 2880, 0), -2);
    }

    public static void main(String[] args) {
        orders();
        seats();
        forces();
        lapses();
        bounds();
        givenLast();
        answers();
        CHECK.end("OrdersTest");
    }
}
