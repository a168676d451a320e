/** Promises 13 to 15 and 29: may, commands, ahead, brief. */
public final class CommandTest {
    private static final int NONE = WhoCommands.NONE;
    private static final Check CHECK = new Check();

    /** Body 1 lies under 0, 2 under 1, 3 beside; one person in each, and a second one in 1. */
    private static WhoCommands four() {
        WhoCommands x = new WhoCommands();
        x.body(NONE, 0, 0, 0);
        x.body(0, 1, 10, 0);
        x.body(1, 2, 20, 0);
        x.body(NONE, 3, 30, 0);
        x.person(5, 10, 0, 0, 3);
        x.person(6, 20, 1, 1, 2);
        x.person(7, 30, 2, 2, 1);
        x.person(8, 40, 3, 3, 0);
        x.person(6, 20, 1, 1, 2);
        return x;
    }

    private static void whoMay() {
        WhoCommands x = four();
        CHECK.due("may without a law", x.may(0, 0), 0);
        CHECK.due("commands without a law", x.commands(0, 0), NONE);
        Check.law(x, "first rank");
        Check.law(x, "bar rank = 6; first rank; bar minute > 5 and post = 1");
        for (int body = 0; body < 4; body++) {
            x.rules(body, 0);
        }
        CHECK.due("may in the highest", x.may(0, 0), 0b10111);
        CHECK.due("may in the middle", x.may(1, 0), 0b10110);
        CHECK.due("may in the lowest", x.may(2, 0), 0b00100);
        CHECK.due("may beside", x.may(3, 0), 0b01000);
        x.rules(0, 1);
        CHECK.due("may with bars", x.may(0, 5), 0b00101);
        CHECK.due("may with more bars", x.may(0, 6), 0b00001);
        CHECK.due("another body has its own law", x.may(1, 6), 0b10110);
        x.falls(0, 8);
        CHECK.due("commands at the end", x.commands(0, 7), 0);
        CHECK.due("commands without anybody", x.commands(0, 8), NONE);
        CHECK.due("may without anybody", x.may(0, 8), 0);
        CHECK.due("may of body 4", x.may(4, 0), NONE);
        CHECK.due("may of body -1", x.may(-1, 0), NONE);
        CHECK.due("may in minute -1", x.may(0, -1), NONE);
        CHECK.due("may in minute 2880", x.may(0, 2880), NONE);
        CHECK.due("commands body 4", x.commands(4, 0), -2);
        CHECK.due("commands body -1", x.commands(-1, 0), -2);
        CHECK.due("commands in minute -1", x.commands(0, -1), -2);
        CHECK.due("commands in minute 2880", x.commands(0, 2880), -2);
    }

    private static void byKey(String law, int commands) {
        WhoCommands x = four();
        x.step(4, 3, 0, 0);
        x.paper(4, 0, 2, 4);
        x.paper(1, 1, 2, 4);
        x.list(0, 4);
        x.list(0, 2);
        CHECK.due("law " + law, Check.law(x, law), 0);
        x.rules(0, 0);
        CHECK.due("commands by " + law, x.commands(0, 3), commands);
    }

    private static void keys() {
        byKey("first paper", 4);
        byKey("first list", 4);
        byKey("first list if rank > 6", 2);
        byKey("first post", 2);
        byKey("first rank", 2);
        byKey("first day", 0);
        byKey("first near", 0);
        byKey("first near if rank = 6", 4);
        byKey("first own", 0);
        byKey("first own if own = 0; first rank", 2);
        byKey("first rank if depth = 1", 1);
        byKey("first rank if depth = 1; first near", 4);
        byKey("first paper if minute < 3; first day if day > 25", 2);
        byKey("bar paper = 1; first rank if own = 0; first post", 2);
        byKey("lapse 1 = 1; first rank", 2);
        byKey("bar 1 = 2", 0);
        byKey("bar 1 = 1", NONE);
    }

    private static void twoPeople() {
        WhoCommands x = four();
        CHECK.due("ahead without a law", x.ahead(0, 1, 0, 0, 0), -2);
        Check.law(x, "bar service = 3; first own; lapse 1 = 1; first rank if rank < 8; first day");
        x.rules(0, 0);
        CHECK.due("by own", x.ahead(2, 0, 0, 0, 0), 0);
        CHECK.due("clause own", x.ahead(2, 0, 0, 0, 1), 1);
        CHECK.due("by rank", x.ahead(1, 2, 0, 0, 0), 2);
        CHECK.due("clause rank", x.ahead(1, 2, 0, 0, 1), 3);
        CHECK.due("by numbers", x.ahead(4, 1, 0, 0, 0), 1);
        CHECK.due("no clause", x.ahead(4, 1, 0, 0, 1), NONE);
        CHECK.due("one who may not, and whose test does not hold", x.ahead(3, 1, 0, 0, 0), 1);
        CHECK.due("clause of that", x.ahead(3, 1, 0, 0, 1), 3);
        x.falls(2, 0);
        CHECK.due("the fallen, too", x.ahead(1, 2, 0, 0, 0), 2);
        CHECK.due("alike", x.ahead(1, 1, 0, 0, 0), -2);
        CHECK.due("person 5", x.ahead(1, 5, 0, 0, 0), -2);
        CHECK.due("person -1", x.ahead(-1, 1, 0, 0, 0), -2);
        CHECK.due("body 4", x.ahead(0, 1, 4, 0, 0), -2);
        CHECK.due("body -1", x.ahead(0, 1, -1, 0, 0), -2);
        CHECK.due("minute 2880", x.ahead(0, 1, 0, 2880, 0), -2);
        CHECK.due("minute -1", x.ahead(0, 1, 0, -1, 0), -2);
        CHECK.due("what 2", x.ahead(0, 1, 0, 0, 2), -2);
        CHECK.due("what -1", x.ahead(0, 1, 0, 0, -1), -2);
        CHECK.due("a body without a law", x.ahead(0, 1, 1, 0, 0), -2);
        Check.law(x, "first own if service = 9");
        x.rules(0, 1);
        CHECK.due("alike by a shorter law", x.ahead(1, 2, 0, 0, 1), NONE);
        CHECK.due("by numbers then", x.ahead(2, 1, 0, 0, 0), 1);
        Check.law(x, "first rank if fallen = 0");
        x.rules(0, 2);
        CHECK.due("fallen is of an order alone", x.ahead(1, 2, 0, 0, 0), 2);
    }

    private static void brief() {
        WhoCommands x = four();
        CHECK.due("brief without a law", x.brief(0, 0, 1, 0), -2);
        Check.law(x, "first rank; bar day = 10");
        x.rules(0, 0);
        int[] order = {2, 1, 4};
        for (int k = 0; k < 3; k++) {
            CHECK.due("brief of three, " + k, x.brief(0, 0, 3, k), order[k]);
        }
        CHECK.due("brief of one", x.brief(0, 0, 1, 0), 2);
        CHECK.due("brief of four", x.brief(0, 0, 4, 0), -2);
        CHECK.due("brief of four, the last", x.brief(0, 0, 4, 3), -2);
        CHECK.due("k is many", x.brief(0, 0, 3, 3), NONE);
        CHECK.due("k -1", x.brief(0, 0, 3, -1), NONE);
        CHECK.due("many 0", x.brief(0, 0, 0, 0), NONE);
        CHECK.due("many 9", x.brief(0, 0, 9, 0), NONE);
        CHECK.due("body 4", x.brief(4, 0, 1, 0), NONE);
        CHECK.due("minute 2880", x.brief(0, 2880, 1, 0), NONE);
        for (int n = 0; n < 6; n++) {
            x.person(9, n, 0, 2, 0);
        }
        CHECK.due("brief of eight", x.brief(0, 0, 8, 7), 1);
        x.falls(5, 3);
        CHECK.due("brief without the fallen", x.brief(0, 3, 8, 7), 4);
        CHECK.due("the first ahead of that", x.brief(0, 2, 8, 0), 5);
    }

    public static void main(String[] args) {
        whoMay();
        keys();
        twoPeople();
        brief();
        CHECK.end("CommandTest");
    }
}
