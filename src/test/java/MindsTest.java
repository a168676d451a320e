/** Promises 16 to 20 and 34: message, sight, knows, thinks, wrong, hangs. */
public final class MindsTest {
    private static final int NONE = WhoCommands.NONE;
    private static final Check CHECK = new Check();

    /** 0 and 1 stand in body 0 at 0, 0; 2 in body 1 under it, at 50, 0; 3 in a body beside, at 10, 0. */
    private static WhoCommands three() {
        WhoCommands x = new WhoCommands();
        x.body(NONE, 0, 0, 0);
        x.body(0, 0, 50, 0);
        x.body(NONE, 0, 10, 0);
        x.person(9, 0, 0, 0, 0);
        x.person(8, 0, 0, 0, 0);
        x.person(7, 0, 0, 1, 0);
        x.person(9, 0, 0, 2, 0);
        Check.law(x, "first paper; first rank");
        x.rules(0, 0);
        x.rules(1, 0);
        return x;
    }

    private static void messages() {
        WhoCommands x = three();
        x.paper(0, 0, 0, 5);
        CHECK.due("of a fall not told", x.message(false, 0, 1, 0), 0);
        CHECK.due("of a paper, lost", x.message(true, 0, 1, NONE), 1);
        CHECK.due("at the end", x.message(false, 3, 3, 2879), 2);
        CHECK.due("of a fall of person 4", x.message(false, 4, 0, 0), NONE);
        CHECK.due("of a fall of person -1", x.message(false, -1, 0, 0), NONE);
        CHECK.due("of paper 1", x.message(true, 1, 0, 0), NONE);
        CHECK.due("of paper -1", x.message(true, -1, 0, 0), NONE);
        CHECK.due("to person 4", x.message(false, 0, 4, 0), NONE);
        CHECK.due("to person -1", x.message(false, 0, -1, 0), NONE);
        CHECK.due("comes -2", x.message(false, 0, 0, -2), NONE);
        CHECK.due("comes 2880", x.message(false, 0, 0, 2880), NONE);
        for (int n = 3; n < 200; n++) {
            CHECK.due("message " + n, x.message(n % 2 == 0, 0, 1, 7), n);
        }
        CHECK.due("a message too many", x.message(false, 0, 1, 7), NONE);
        CHECK.due("messages", x.count(6), 200);
    }

    private static void sight() {
        WhoCommands x = three();
        CHECK.due("10 at first", x.sight(0), 10);
        CHECK.due("then 0", x.sight(99), 0);
        CHECK.due("100", x.sight(100), NONE);
        CHECK.due("-1", x.sight(-1), NONE);
        CHECK.due("99 as it was", x.sight(10), 99);
    }

    private static void knowsOfFalls() {
        WhoCommands x = three();
        x.step(2, 9, 5, 5);
        x.step(2, 10, 6, 5);
        x.step(2, 11, 0, 0);
        x.falls(0, 10);
        CHECK.due("ahead of it", x.knows(1, false, 0, 9), NONE);
        CHECK.due("not fallen", x.knows(1, false, 2, 10), NONE);
        CHECK.due("his own", x.knows(0, false, 0, 10), 1);
        CHECK.due("in the same place", x.knows(1, false, 0, 10), 1);
        CHECK.due("ten steps off", x.knows(3, false, 0, 10), 1);
        CHECK.due("eleven steps off then", x.knows(2, false, 0, 2879), 0);
        x.sight(11);
        CHECK.due("with sight 11", x.knows(2, false, 0, 10), 1);
        x.sight(9);
        CHECK.due("with sight 9", x.knows(3, false, 0, 2879), 0);
        x.message(false, 0, 3, NONE);
        CHECK.due("a lost message", x.knows(3, false, 0, 2879), 0);
        x.message(false, 1, 3, 12);
        CHECK.due("a message of another fall", x.knows(3, false, 0, 2879), 0);
        x.message(false, 0, 2, 12);
        CHECK.due("a message to another", x.knows(3, false, 0, 2879), 0);
        x.message(false, 0, 3, 12);
        CHECK.due("ahead of the message", x.knows(3, false, 0, 11), 0);
        CHECK.due("with the message", x.knows(3, false, 0, 12), 1);
        x.step(1, 20, 40, 50);
        x.step(2, 20, 43, 55);
        x.falls(1, 20);
        CHECK.due("eight steps off, sight 9", x.knows(2, false, 1, 20), 1);
        x.sight(7);
        CHECK.due("eight steps off, sight 7", x.knows(2, false, 1, 20), 0);
        x.sight(0);
        CHECK.due("in the same place, sight 0", x.knows(1, false, 0, 10), 1);
        CHECK.due("person 4", x.knows(4, false, 0, 10), NONE);
        CHECK.due("person -1", x.knows(-1, false, 0, 10), NONE);
        CHECK.due("of person 4", x.knows(0, false, 4, 10), NONE);
        CHECK.due("of person -1", x.knows(0, false, -1, 10), NONE);
        CHECK.due("minute -1", x.knows(0, false, 0, -1), NONE);
        CHECK.due("minute 2880", x.knows(0, false, 0, 2880), NONE);
    }

    private static void knowsOfPapers() {
        WhoCommands x = three();
        CHECK.due("no paper", x.knows(0, true, 0, 0), NONE);
        x.paper(2, 0, 5, 9);
        CHECK.due("it names him, ahead of its hour", x.knows(2, true, 0, 0), 1);
        CHECK.due("it does not name him", x.knows(0, true, 0, 5), 0);
        x.message(false, 0, 0, 4);
        CHECK.due("a message of a fall", x.knows(0, true, 0, 5), 0);
        x.message(true, 0, 0, 6);
        CHECK.due("ahead of the message", x.knows(0, true, 0, 5), 0);
        CHECK.due("with the message", x.knows(0, true, 0, 6), 1);
        CHECK.due("paper 1", x.knows(0, true, 1, 6), NONE);
        CHECK.due("paper -1", x.knows(0, true, -1, 6), NONE);
    }

    private static void thinks() {
        WhoCommands x = three();
        x.falls(0, 10);
        CHECK.due("ahead of the fall", x.thinks(2, 0, 9), 0);
        CHECK.due("who saw it", x.thinks(1, 0, 10), 1);
        CHECK.due("who did not", x.thinks(2, 0, 10), 0);
        CHECK.due("the fallen one", x.thinks(0, 0, 10), 1);
        CHECK.due("one beside", x.thinks(3, 0, 10), 1);
        CHECK.due("wrong", x.wrong(0, 10), 0b100);
        CHECK.due("wrong ahead of it", x.wrong(0, 9), 0);
        CHECK.due("wrong below", x.wrong(1, 10), 0);
        CHECK.due("wrong without a law", x.wrong(2, 10), 0);
        CHECK.due("thinks without a law", x.thinks(0, 2, 10), NONE);
        x.paper(2, 0, 10, 20);
        CHECK.due("commands by paper", x.commands(0, 10), 2);
        CHECK.due("who has it", x.thinks(2, 0, 10), 2);
        CHECK.due("who does not know of it", x.thinks(1, 0, 10), 1);
        CHECK.due("wrong of a paper, but for the fallen", x.wrong(0, 10), 0b010);
        x.message(true, 0, 1, 15);
        CHECK.due("wrong ahead of the message", x.wrong(0, 14), 0b010);
        CHECK.due("wrong with the message", x.wrong(0, 15), 0);
        CHECK.due("wrong of what is no more", x.wrong(0, 20), 0b100);
        CHECK.due("thinks of person 4", x.thinks(4, 0, 0), -2);
        CHECK.due("thinks of person -1", x.thinks(-1, 0, 0), -2);
        CHECK.due("thinks of body 3", x.thinks(0, 3, 0), -2);
        CHECK.due("thinks in minute 2880", x.thinks(0, 0, 2880), -2);
        CHECK.due("thinks in minute -1", x.thinks(0, 0, -1), -2);
        CHECK.due("wrong of body 3", x.wrong(3, 0), NONE);
        CHECK.due("wrong of body -1", x.wrong(-1, 0), NONE);
        CHECK.due("wrong in minute 2880", x.wrong(0, 2880), NONE);
        CHECK.due("wrong in minute -1", x.wrong(0, -1), NONE);
    }

    /** A bar by paper bars those alone who think of it. */
    private static void thinksByBars() {
        WhoCommands x = three();
        Check.law(x, "bar paper = 1; first rank if paper = 0");
        x.rules(0, 1);
        x.paper(0, 0, 0, 9);
        x.paper(1, 1, 0, 9);
        CHECK.due("he is barred", x.commands(0, 0), 1);
        CHECK.due("he knows it", x.thinks(0, 0, 0), 1);
        CHECK.due("another does not", x.thinks(1, 0, 0), 0);
        CHECK.due("wrong of it", x.wrong(0, 0), 0b110);
    }

    private static void hangs() {
        WhoCommands x = three();
        x.falls(0, 10);
        x.message(false, 0, 2, 12);
        x.message(false, 0, 2, 14);
        x.message(false, 0, 1, 12);
        CHECK.due("by the one", x.hangs(0, 0, 12), 1);
        CHECK.due("ahead of it", x.hangs(0, 0, 11), 0);
        CHECK.due("by neither of two", x.hangs(0, 0, 14), 0);
        CHECK.due("who saw it himself", x.hangs(2, 0, 14), 0);
        CHECK.due("the message is there still", x.wrong(0, 12), 0);
        CHECK.due("message 3", x.hangs(3, 0, 12), -1000);
        CHECK.due("message -1", x.hangs(-1, 0, 12), -1000);
        CHECK.due("body 3", x.hangs(0, 3, 12), -1000);
        CHECK.due("body -1", x.hangs(0, -1, 12), -1000);
        CHECK.due("minute 2880", x.hangs(0, 0, 2880), -1000);
        CHECK.due("minute -1", x.hangs(0, 0, -1), -1000);
    }

    /** One who is far off hears that a paper bars the highest. */
    private static void hangsOnPaper() {
        WhoCommands x = three();
        x.step(2, 0, 99, 99);
        x.paper(0, 0, 0, 100);
        Check.law(x, "bar paper = 1 and rank = 9; first rank");
        x.rules(0, 1);
        x.message(true, 0, 2, 3);
        CHECK.due("he thinks otherwise without it", x.hangs(0, 0, 3), 1);
        CHECK.due("it has not come", x.hangs(0, 0, 2), 0);
        CHECK.due("another does not hear of it", x.wrong(0, 3), 0b010);
    }

    /** Two have a paper; who hears of that of the lower one alone takes him to command. */
    private static void rightByLuck() {
        WhoCommands x = new WhoCommands();
        x.body(NONE, 0, 0, 0);
        x.person(5, 0, 0, 0, 0);
        x.person(9, 0, 0, 0, 0);
        x.person(1, 0, 0, 0, 0);
        Check.law(x, "first paper; first rank");
        x.rules(0, 0);
        x.paper(1, 0, 0, 9);
        x.paper(0, 0, 0, 9);
        x.message(true, 1, 2, 3);
        CHECK.due("commands by paper, of two the higher", x.commands(0, 3), 1);
        CHECK.due("he knows of the paper of another alone", x.thinks(2, 0, 3), 0);
        CHECK.due("without it he would be right", x.hangs(0, 0, 3), -1);
    }

    public static void main(String[] args) {
        messages();
        sight();
        knowsOfFalls();
        knowsOfPapers();
        thinks();
        thinksByBars();
        hangs();
        hangsOnPaper();
        rightByLuck();
        CHECK.end("MindsTest");
    }
}
