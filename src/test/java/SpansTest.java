/** Promises 27, 28, 30 to 33: gaps, doubt, fights, allied, mended, judge. */
public final class SpansTest {
    private static final int NONE = WhoCommands.NONE;
    private static final Check CHECK = new Check();

    private static void gaps() {
        WhoCommands x = new WhoCommands();
        x.body(NONE, 0, 0, 0);
        x.body(NONE, 0, 0, 0);
        x.person(1, 0, 0, 0, 0);
        x.person(2, 0, 0, 0, 0);
        Check.law(x, "bar minute > 3 and minute < 6; bar minute > 8 and minute < 12; first rank if minute > 12");
        x.rules(0, 0);
        CHECK.due("many", x.gaps(0, 0, 20, 0), 5);
        CHECK.due("longest", x.gaps(0, 0, 20, 1), 3);
        CHECK.due("first", x.gaps(0, 0, 20, 2), 4);
        CHECK.due("turns", x.gaps(0, 0, 20, 3), 5);
        CHECK.due("many within", x.gaps(0, 10, 10, 0), 1);
        CHECK.due("turns of one minute", x.gaps(0, 10, 10, 3), 0);
        CHECK.due("turns from nobody on", x.gaps(0, 11, 13, 3), 2);
        CHECK.due("first within", x.gaps(0, 5, 20, 2), 5);
        CHECK.due("none", x.gaps(0, 12, 20, 2), NONE);
        CHECK.due("no longest", x.gaps(0, 12, 20, 1), 0);
        CHECK.due("without a law", x.gaps(1, 100, 399, 0), 300);
        CHECK.due("without a law, turns", x.gaps(1, 100, 399, 3), 0);
        CHECK.due("301", x.gaps(0, 0, 300, 0), -2);
        CHECK.due("the last 300", x.gaps(1, 2580, 2879, 1), 300);
        CHECK.due("to 2880", x.gaps(0, 2879, 2880, 0), -2);
        CHECK.due("from -1", x.gaps(0, -1, 3, 0), -2);
        CHECK.due("to ahead of from", x.gaps(0, 4, 3, 0), -2);
        CHECK.due("wide apart", x.gaps(0, Integer.MIN_VALUE, Integer.MAX_VALUE, 0), -2);
        CHECK.due("body 2", x.gaps(2, 0, 1, 0), -2);
        CHECK.due("body -1", x.gaps(-1, 0, 1, 0), -2);
        CHECK.due("what 4", x.gaps(0, 0, 1, 4), -2);
        CHECK.due("what -1", x.gaps(0, 0, 1, -1), -2);
        CHECK.due("judge whom", x.judge(0, 0, 20, 0), 4);
        CHECK.due("judge later", x.judge(0, 6, 8, 0), NONE);
        CHECK.due("judge another", x.judge(0, 6, 8, 1), 6);
        CHECK.due("judge the last minute", x.judge(0, 6, 9, 0), 9);
        CHECK.due("judge nobody", x.judge(0, 4, 20, NONE), 6);
        CHECK.due("judge nobody in all", x.judge(0, 9, 11, NONE), NONE);
        CHECK.due("judge one minute", x.judge(0, 13, 13, 1), NONE);
        CHECK.due("judge 300", x.judge(1, 2580, 2879, NONE), NONE);
        CHECK.due("judge 301", x.judge(1, 0, 300, NONE), -2);
        CHECK.due("judge backwards", x.judge(0, 1, 0, 0), -2);
        CHECK.due("judge from -1", x.judge(0, -1, 0, 0), -2);
        CHECK.due("judge to 2880", x.judge(0, 2879, 2880, 0), -2);
        CHECK.due("judge person 2", x.judge(0, 0, 1, 2), -2);
        CHECK.due("judge person -2", x.judge(0, 0, 1, -2), -2);
        CHECK.due("judge body 2", x.judge(2, 0, 1, 0), -2);
    }

    /** 0, 1, 2 stand in body 0 at 0, 0, at 8, 0 and at 50, 0; 3 in body 1 under it, at 58, 0. */
    private static WhoCommands scattered() {
        WhoCommands x = new WhoCommands();
        x.body(NONE, 0, 0, 0);
        x.body(0, 0, 58, 0);
        x.person(7, 3, 0, 0, 0);
        x.person(8, 2, 0, 0, 0);
        x.person(9, 9, 0, 0, 0);
        x.person(6, 1, 0, 1, 0);
        x.step(1, 0, 8, 0);
        x.step(2, 0, 50, 0);
        Check.law(x, "first rank");
        x.rules(0, 0);
        return x;
    }

    private static void doubts() {
        WhoCommands x = scattered();
        CHECK.due("whose", x.doubt(0, 5, 0), 2);
        CHECK.due("how many", x.doubt(0, 5, 1), 2);
        x.message(false, 2, 0, 0);
        CHECK.due("a message of it does not count", x.doubt(0, 5, 1), 2);
        x.falls(2, 9);
        CHECK.due("one who falls later", x.doubt(0, 8, 0), 2);
        CHECK.due("one errs whoever falls, so the least", x.doubt(0, 9, 0), 0);
        CHECK.due("one errs", x.doubt(0, 9, 1), 1);
        x.message(false, 2, 1, 9);
        CHECK.due("the messages of told falls count", x.doubt(0, 9, 0), 1);
        CHECK.due("one who is far off errs", x.doubt(0, 9, 1), 1);
        CHECK.due("of several the least", x.doubt(1, 0, 0), 3);
        CHECK.due("nobody errs", x.doubt(1, 0, 1), 0);
        CHECK.due("nothing has happened", x.count(4), 1);
        x.falls(3, 1);
        CHECK.due("nobody is there", x.doubt(1, 1, 0), NONE);
        CHECK.due("nobody errs there", x.doubt(1, 1, 1), 0);
        CHECK.due("body 2", x.doubt(2, 0, 0), -2);
        CHECK.due("body -1", x.doubt(-1, 0, 0), -2);
        CHECK.due("minute -1", x.doubt(0, -1, 0), -2);
        CHECK.due("minute 2880", x.doubt(0, 2880, 0), -2);
        CHECK.due("what 2", x.doubt(0, 0, 2), -2);
        CHECK.due("what -1", x.doubt(0, 0, -1), -2);
    }

    private static void mends() {
        WhoCommands x = scattered();
        CHECK.due("the only law", x.mended(0, 5, 0), 0);
        CHECK.due("its doubt", x.mended(0, 5, 1), 2);
        Check.law(x, "first day");
        CHECK.due("by days two are left wrong", x.mended(0, 5, 0), 0);
        Check.law(x, "first day if day = 100");
        Check.law(x, "bar 1 = 1");
        CHECK.due("nobody is wrong if nobody commands", x.mended(0, 5, 0), 3);
        CHECK.due("how many then", x.mended(0, 5, 1), 0);
        Check.law(x, "bar 1 < 2");
        CHECK.due("of several the least", x.mended(0, 5, 0), 3);
        CHECK.due("its own law stays", x.commands(0, 5), 2);
        CHECK.due("a body without a law", x.mended(1, 5, 0), 0);
        CHECK.due("body 2", x.mended(2, 0, 0), -2);
        CHECK.due("body -1", x.mended(-1, 0, 0), -2);
        CHECK.due("minute -1", x.mended(0, -1, 0), -2);
        CHECK.due("minute 2880", x.mended(0, 2880, 0), -2);
        CHECK.due("what 2", x.mended(0, 0, 2), -2);
        CHECK.due("what -1", x.mended(0, 0, -1), -2);
        WhoCommands y = new WhoCommands();
        y.body(NONE, 0, 0, 0);
        y.person(0, 0, 0, 0, 0);
        CHECK.due("without laws", y.mended(0, 0, 0), NONE);
        CHECK.due("without laws, how many", y.mended(0, 0, 1), 0);
    }

    private static void fights() {
        WhoCommands x = scattered();
        CHECK.due("all fall", x.fights(0, 5, 7, 100, 50, 0), 50);
        CHECK.due("none falls", x.fights(0, 5, 7, 0, 50, 0), 0);
        CHECK.due("all fall, nobody is wrong", x.fights(0, 5, 7, 100, 50, 1), 0);
        // From seed 1 on the numbers are 38 58 13 15, 51 27 10 19, 12 86 49 67.
        CHECK.due("chance 13: none falls", x.fights(0, 5, 1, 13, 1, 1), 0);
        CHECK.due("chance 14: 2 falls, unseen by 0 and 1", x.fights(0, 5, 1, 14, 1, 1), 1);
        CHECK.due("chance 13: 2 falls in the second", x.fights(0, 5, 1, 13, 2, 1), 1);
        CHECK.due("chance 13: 0 alone falls in the third", x.fights(0, 5, 1, 13, 3, 1), 1);
        CHECK.due("chance 58: 1 is left", x.fights(0, 5, 1, 58, 1, 0), 0);
        CHECK.due("chance 59: nobody is left", x.fights(0, 5, 1, 59, 1, 0), 1);
        CHECK.due("chance 51: 0 is left in the second", x.fights(0, 5, 1, 51, 2, 0), 0);
        CHECK.due("chance 52: nobody in the second", x.fights(0, 5, 1, 52, 2, 0), 1);
        CHECK.due("chance 86: 1 is left in the third", x.fights(0, 5, 1, 86, 3, 0), 2);
        CHECK.due("chance 87: nobody in all three", x.fights(0, 5, 1, 87, 3, 0), 3);
        CHECK.due("the least seed", x.fights(0, 5, 0, 100, 1, 0), 1);
        CHECK.due("the greatest seed", x.fights(0, 5, Integer.MAX_VALUE, 100, 1, 0), 1);
        CHECK.due("nothing has happened", x.count(4), 0);
        CHECK.due("a body without a law", x.fights(1, 5, 1, 0, 9, 0), 9);
        CHECK.due("a body without a law, wrong", x.fights(1, 5, 1, 50, 9, 1), 0);
        x.falls(0, 5);
        // The one who has fallen draws no number: 38 58 13 and then 15 51 27 are those of 1, 2, 3.
        CHECK.due("chance 28: 2 is left in both", x.fights(0, 5, 1, 28, 2, 0), 0);
        CHECK.due("chance 51: 2 is left in both", x.fights(0, 5, 1, 51, 2, 0), 0);
        CHECK.due("chance 52: nobody in the second", x.fights(0, 5, 1, 52, 2, 0), 1);
        CHECK.due("chance 58: 2 is left in the first", x.fights(0, 5, 1, 58, 1, 0), 0);
        CHECK.due("seed -1", x.fights(0, 5, -1, 50, 1, 0), NONE);
        CHECK.due("chance -1", x.fights(0, 5, 1, -1, 1, 0), NONE);
        CHECK.due("chance 101", x.fights(0, 5, 1, 101, 1, 0), NONE);
        CHECK.due("n 0", x.fights(0, 5, 1, 50, 0, 0), NONE);
        CHECK.due("n 51", x.fights(0, 5, 1, 50, 51, 0), NONE);
        CHECK.due("what 2", x.fights(0, 5, 1, 50, 1, 2), NONE);
        CHECK.due("what -1", x.fights(0, 5, 1, 50, 1, -1), NONE);
        CHECK.due("body 2", x.fights(2, 5, 1, 50, 1, 0), NONE);
        CHECK.due("body -1", x.fights(-1, 5, 1, 50, 1, 0), NONE);
        CHECK.due("minute 2880", x.fights(0, 2880, 1, 50, 1, 0), NONE);
        CHECK.due("minute -1", x.fights(0, -1, 1, 50, 1, 0), NONE);
    }

    private static void allies() {
        WhoCommands x = new WhoCommands();
        x.body(NONE, 0, 0, 0);
        x.body(NONE, 1, 50, 0);
        x.body(0, 2, 90, 0);
        x.person(5, 10, 0, 0, 1);
        x.person(6, 20, 0, 1, 1);
        x.person(4, 5, 2, 2, 0);
        x.step(1, 3, 55, 0);
        x.step(0, 3, 7, 0);
        Check.law(x, "first rank");
        Check.law(x, "first day");
        Check.law(x, "first near");
        Check.law(x, "first own");
        Check.law(x, "first post");
        Check.law(x, "first paper");
        Check.law(x, "first list");
        CHECK.due("without both", x.allied(0, 1, 0, 3), NONE);
        x.rules(0, 0);
        CHECK.due("the one", x.allied(0, 1, 0, 3), 0);
        CHECK.due("the one, told last", x.allied(1, 0, 0, 3), 0);
        x.rules(1, 0);
        CHECK.due("by rank", x.allied(0, 1, 0, 3), 1);
        CHECK.due("by day", x.allied(0, 1, 1, 3), 0);
        CHECK.due("each near his own", x.allied(0, 1, 2, 3), 1);
        CHECK.due("by own", x.allied(1, 0, 3, 3), 0);
        CHECK.due("by numbers", x.allied(1, 0, 4, 3), 0);
        x.paper(1, 0, 3, 4);
        CHECK.due("a paper for the other body", x.allied(0, 1, 5, 3), 0);
        x.paper(1, 1, 3, 4);
        CHECK.due("a paper for his body", x.allied(0, 1, 5, 3), 1);
        x.list(0, 1);
        x.list(1, 1);
        CHECK.due("a list", x.allied(0, 1, 6, 3), 1);
        x.rules(2, 0);
        x.paper(2, 0, 5, 6);
        x.rules(0, 5);
        CHECK.due("he who commands both", x.allied(0, 2, 0, 5), 2);
        CHECK.due("alike", x.allied(1, 1, 0, 3), -2);
        CHECK.due("body 3", x.allied(0, 3, 0, 3), -2);
        CHECK.due("body -1", x.allied(-1, 0, 0, 3), -2);
        CHECK.due("law 7", x.allied(0, 1, 7, 3), -2);
        CHECK.due("law -1", x.allied(0, 1, -1, 3), -2);
        CHECK.due("minute -1", x.allied(0, 1, 0, -1), -2);
        CHECK.due("minute 2880", x.allied(0, 1, 0, 2880), -2);
    }

    public static void main(String[] args) {
        gaps();
        doubts();
        mends();
        fights();
        allies();
        CHECK.end("SpansTest");
    }
}
