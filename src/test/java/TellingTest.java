/** Promises 1 to 8: a new object, body, person, step, near, paper, list, falls. */
public final class TellingTest {
    private static final int NONE = WhoCommands.NONE;
    private static final Check CHECK = new Check();

    private static void newObject() {
        WhoCommands x = new WhoCommands();
        CHECK.due("NONE", NONE, -1);
        for (int what = 0; what <= 8; what++) {
            CHECK.due("count(" + what + ") of a new object", x.count(what), 0);
        }
        CHECK.due("commands(0, 0) of a new object", x.commands(0, 0), -2);
        CHECK.due("may(0, 0) of a new object", x.may(0, 0), NONE);
        CHECK.due("back(0) of a new object", x.back(0), NONE);
        CHECK.due("SIGHT of a new object", x.sight(10), 10);
    }

    private static void bodies() {
        WhoCommands x = new WhoCommands();
        CHECK.due("the first body above itself", x.body(0, 0, 0, 0), NONE);
        CHECK.due("a body above", x.body(NONE, 0, 0, 0), 0);
        CHECK.due("a body at the ends of its limits", x.body(0, 3, 99, 99), 1);
        CHECK.due("above itself", x.body(2, 0, 0, 0), NONE);
        CHECK.due("above -2", x.body(-2, 0, 0, 0), NONE);
        CHECK.due("service 4", x.body(0, 4, 0, 0), NONE);
        CHECK.due("service -1", x.body(0, -1, 0, 0), NONE);
        CHECK.due("x 100", x.body(0, 0, 100, 0), NONE);
        CHECK.due("x -1", x.body(0, 0, -1, 0), NONE);
        CHECK.due("y 100", x.body(0, 0, 0, 100), NONE);
        CHECK.due("y -1", x.body(0, 0, 0, -1), NONE);
        CHECK.due("bodies so far", x.count(0), 2);
        for (int n = 2; n < 12; n++) {
            CHECK.due("body " + n, x.body(n - 1, n % 4, n, n), n);
        }
        CHECK.due("a thirteenth body", x.body(NONE, 0, 0, 0), NONE);
        CHECK.due("twelve bodies", x.count(0), 12);
    }

    private static void people() {
        WhoCommands x = new WhoCommands();
        CHECK.due("a person without a body", x.person(0, 0, 0, 0, 0), NONE);
        x.body(NONE, 0, 0, 0);
        CHECK.due("least", x.person(0, 0, 0, 0, 0), 0);
        CHECK.due("most", x.person(9, 9999, 3, 0, 9), 1);
        CHECK.due("rank 10", x.person(10, 0, 0, 0, 0), NONE);
        CHECK.due("rank -1", x.person(-1, 0, 0, 0, 0), NONE);
        CHECK.due("day 10000", x.person(0, 10000, 0, 0, 0), NONE);
        CHECK.due("day -1", x.person(0, -1, 0, 0, 0), NONE);
        CHECK.due("service 4", x.person(0, 0, 4, 0, 0), NONE);
        CHECK.due("service -1", x.person(0, 0, -1, 0, 0), NONE);
        CHECK.due("body 1", x.person(0, 0, 0, 1, 0), NONE);
        CHECK.due("body NONE", x.person(0, 0, 0, NONE, 0), NONE);
        CHECK.due("post 10", x.person(0, 0, 0, 0, 10), NONE);
        CHECK.due("post -1", x.person(0, 0, 0, 0, -1), NONE);
        for (int n = 2; n < 24; n++) {
            CHECK.due("person " + n, x.person(1, 1, 1, 0, 1), n);
        }
        CHECK.due("a twenty-fifth person", x.person(1, 1, 1, 0, 1), NONE);
        CHECK.due("people", x.count(1), 24);
    }

    private static void steps() {
        WhoCommands x = new WhoCommands();
        x.body(NONE, 0, 10, 20);
        x.body(0, 0, 0, 99);
        x.person(0, 0, 0, 0, 0);
        CHECK.due("person 1", x.step(1, 0, 0, 0), NONE);
        CHECK.due("person -1", x.step(-1, 0, 0, 0), NONE);
        CHECK.due("minute -1", x.step(0, -1, 0, 0), NONE);
        CHECK.due("minute 2880", x.step(0, 2880, 0, 0), NONE);
        CHECK.due("x -1", x.step(0, 0, -1, 0), NONE);
        CHECK.due("x 100", x.step(0, 0, 100, 0), NONE);
        CHECK.due("y -1", x.step(0, 0, 0, -1), NONE);
        CHECK.due("y 100", x.step(0, 0, 0, 100), NONE);
        CHECK.due("near without steps", x.near(0, 1, 0), 10 + 79);
        CHECK.due("a step late", x.step(0, 2879, 0, 0), 1);
        CHECK.due("a step earlier, told later", x.step(0, 100, 99, 99), 2);
        CHECK.due("near ahead of both", x.near(0, 1, 99), 89);
        CHECK.due("near from the one on", x.near(0, 1, 100), 99);
        CHECK.due("near till the other", x.near(0, 1, 2878), 99);
        CHECK.due("near from the other on", x.near(0, 1, 2879), 99);
        CHECK.due("near the own body then", x.near(0, 0, 2879), 30);
        CHECK.due("the same minute, told last", x.step(0, 100, 0, 98), 3);
        CHECK.due("near by what was told last", x.near(0, 1, 100), 1);
        CHECK.due("an earlier minute, told last", x.step(0, 99, 50, 50), 4);
        CHECK.due("near by the latest minute", x.near(0, 1, 100), 1);
        CHECK.due("near of another person", x.near(1, 0, 0), NONE);
        CHECK.due("near of body 2", x.near(0, 2, 0), NONE);
        CHECK.due("near of body NONE", x.near(0, NONE, 0), NONE);
        CHECK.due("near in minute -1", x.near(0, 0, -1), NONE);
        CHECK.due("near in minute 2880", x.near(0, 0, 2880), NONE);
        for (int n = 5; n <= 200; n++) {
            CHECK.due("step " + n, x.step(0, 0, 0, 0), n);
        }
        CHECK.due("a step too many", x.step(0, 0, 0, 0), NONE);
        CHECK.due("steps", x.count(2), 200);
    }

    private static void papers() {
        WhoCommands x = new WhoCommands();
        x.body(NONE, 0, 0, 0);
        x.person(0, 0, 0, 0, 0);
        x.person(0, 0, 0, 0, 0);
        Check.law(x, "first paper");
        x.rules(0, 0);
        CHECK.due("the longest", x.paper(1, 0, 0, 2879), 0);
        CHECK.due("it holds at once", x.commands(0, 0), 1);
        CHECK.due("it holds in the last minute but one", x.commands(0, 2878), 1);
        CHECK.due("it holds no more", x.commands(0, 2879), 0);
        CHECK.due("the shortest", x.paper(0, 0, 2878, 2879), 1);
        CHECK.due("both hold", x.commands(0, 2878), 0);
        CHECK.due("a second one for the same", x.paper(1, 0, 10, 20), 2);
        CHECK.due("he has two that hold", x.commands(0, 10), 1);
        CHECK.due("till is from", x.paper(0, 0, 5, 5), NONE);
        CHECK.due("till ahead of from", x.paper(0, 0, 5, 4), NONE);
        CHECK.due("till 2880", x.paper(0, 0, 5, 2880), NONE);
        CHECK.due("from -1", x.paper(0, 0, -1, 5), NONE);
        CHECK.due("person 2", x.paper(2, 0, 0, 5), NONE);
        CHECK.due("person -1", x.paper(-1, 0, 0, 5), NONE);
        CHECK.due("body 1", x.paper(0, 1, 0, 5), NONE);
        CHECK.due("body -1", x.paper(0, -1, 0, 5), NONE);
        for (int n = 3; n < 24; n++) {
            CHECK.due("paper " + n, x.paper(0, 0, 1, 2), n);
        }
        CHECK.due("a paper too many", x.paper(0, 0, 1, 2), NONE);
        CHECK.due("papers", x.count(3), 24);
    }

    private static void lists() {
        WhoCommands x = new WhoCommands();
        x.body(NONE, 0, 0, 0);
        x.body(0, 0, 0, 0);
        for (int n = 0; n < 10; n++) {
            x.person(0, 0, 0, 0, 0);
        }
        CHECK.due("body 2", x.list(2, 0), NONE);
        CHECK.due("body -1", x.list(-1, 0), NONE);
        CHECK.due("person 10", x.list(0, 10), NONE);
        CHECK.due("person -1", x.list(0, -1), NONE);
        CHECK.due("on another list, on which he does not stand", x.list(1, 9), 1);
        for (int n = 0; n < 8; n++) {
            CHECK.due("place of " + (9 - n), x.list(0, 9 - n), n + 1);
            CHECK.due("twice " + (9 - n), x.list(0, 9 - n), NONE);
        }
        CHECK.due("a ninth", x.list(0, 0), NONE);
        CHECK.due("the other list goes on", x.list(1, 0), 2);
        Check.law(x, "first list");
        x.rules(0, 0);
        CHECK.due("the first of the list", x.commands(0, 0), 9);
        CHECK.due("the last of the list goes ahead of others", x.ahead(2, 0, 0, 0, 0), 2);
    }

    private static void falls() {
        WhoCommands x = new WhoCommands();
        x.body(NONE, 0, 0, 0);
        x.person(0, 0, 0, 0, 0);
        x.person(0, 0, 0, 0, 0);
        CHECK.due("person 2", x.falls(2, 0), false);
        CHECK.due("person -1", x.falls(-1, 0), false);
        CHECK.due("minute -1", x.falls(0, -1), false);
        CHECK.due("minute 2880", x.falls(0, 2880), false);
        CHECK.due("no falls", x.count(4), 0);
        CHECK.due("a fall", x.falls(0, 2879), true);
        CHECK.due("a fall again, earlier", x.falls(0, 0), false);
        CHECK.due("a fall at once", x.falls(1, 0), true);
        CHECK.due("falls", x.count(4), 2);
        Check.law(x, "first rank");
        x.rules(0, 0);
        CHECK.due("may ahead of it", x.may(0, 2878), 1);
        CHECK.due("may from it on", x.may(0, 2879), 0);
    }

    public static void main(String[] args) {
        newObject();
        bodies();
        people();
        steps();
        papers();
        lists();
        falls();
        CHECK.end("TellingTest");
    }
}
