/** Promises 35 to 37: mark, back, count. */
public final class MarksTest {
    private static final int NONE = WhoCommands.NONE;
    private static final Check CHECK = new Check();

    private static void counts(WhoCommands x, String when, int... want) {
        for (int what = 0; what < want.length; what++) {
            CHECK.due(when + ", count(" + what + ")", x.count(what), want[what]);
        }
    }

    private static WhoCommands told() {
        WhoCommands x = new WhoCommands();
        x.body(NONE, 0, 0, 0);
        x.person(1, 0, 0, 0, 0);
        x.person(2, 0, 0, 0, 0);
        x.step(0, 0, 1, 1);
        x.paper(0, 0, 0, 10);
        x.list(0, 1);
        x.falls(1, 50);
        Check.law(x, "first rank");
        x.rules(0, 0);
        x.message(false, 1, 0, 60);
        x.sight(20);
        x.order(1, 0, 3, 1, 2, 30);
        return x;
    }

    private static void goesBack() {
        WhoCommands x = told();
        counts(x, "as told", 1, 2, 1, 1, 1, 1, 1, 1, 0);
        CHECK.due("mark", x.mark(2), 2);
        x.body(0, 1, 50, 50);
        x.person(9, 0, 0, 1, 0);
        x.step(1, 0, 99, 99);
        x.paper(1, 0, 0, 20);
        x.list(0, 0);
        x.list(1, 2);
        x.falls(0, 5);
        CHECK.due("a law behind the mark", Check.law(x, "first list; first paper"), 1);
        x.rules(0, 1);
        x.message(true, 0, 1, 1);
        x.sight(0);
        x.order(0, 0, 4, 3, 4, 30);
        x.feed(1, 2, 3, 4, 5);
        counts(x, "behind the mark", 2, 3, 2, 2, 2, 2, 2, 2, 20);
        CHECK.due("back", x.back(2), 2);
        counts(x, "gone back", 1, 2, 1, 1, 1, 2, 1, 1, 20);
        CHECK.due("the law of the body", x.commands(0, 0), 1);
        CHECK.due("the sight", x.sight(20), 20);
        CHECK.due("the fall that was", x.commands(0, 50), 0);
        CHECK.due("the step that was not", x.near(1, 0, 0), 0);
        CHECK.due("the step that was", x.near(0, 0, 0), 2);
        CHECK.due("the order", x.bound(0, 5), 0);
        CHECK.due("the list", x.list(0, 0), 2);
        CHECK.due("laws stay", x.rules(0, 1), true);
        CHECK.due("back again", x.back(2), 2);
        CHECK.due("the list as it was", x.list(0, 0), 2);
        CHECK.due("told anew", x.person(0, 0, 0, 0, 0), 2);
        CHECK.due("he has not fallen", x.falls(2, 0), true);
        CHECK.due("a new body has no law", x.body(NONE, 0, 0, 0), 1);
        CHECK.due("nobody commands it", x.commands(1, 0), NONE);
    }

    private static void fourMarks() {
        WhoCommands x = new WhoCommands();
        CHECK.due("never made", x.back(0), NONE);
        CHECK.due("mark of nothing", x.mark(0), 0);
        x.body(NONE, 0, 0, 0);
        x.person(0, 0, 0, 0, 0);
        CHECK.due("mark 3", x.mark(3), 1);
        x.person(0, 0, 0, 0, 0);
        CHECK.due("mark 4", x.mark(4), NONE);
        CHECK.due("mark -1", x.mark(-1), NONE);
        CHECK.due("back 4", x.back(4), NONE);
        CHECK.due("back -1", x.back(-1), NONE);
        CHECK.due("back 1, never made", x.back(1), NONE);
        CHECK.due("nothing happened", x.count(1), 2);
        CHECK.due("back 0", x.back(0), 0);
        CHECK.due("nothing told", x.count(0), 0);
        CHECK.due("back 3", x.back(3), 1);
        x.person(0, 0, 0, 0, 0);
        CHECK.due("mark 0 anew", x.mark(0), 2);
        x.back(3);
        CHECK.due("back 0 anew", x.back(0), 2);
    }

    private static void countOfOthers() {
        WhoCommands x = told();
        CHECK.due("count(9)", x.count(9), NONE);
        CHECK.due("count(-1)", x.count(-1), NONE);
        CHECK.due("count(least)", x.count(Integer.MIN_VALUE), NONE);
        CHECK.due("count(most)", x.count(Integer.MAX_VALUE), NONE);
    }

    public static void main(String[] args) {
        goesBack();
        fourMarks();
        countOfOthers();
        CHECK.end("MarksTest");
    }
}
