/** Promises 9 to 12: feed, end, law, rules; the language of LAWS and its FAULTS. */
public final class LawTest {
    private static final int NONE = WhoCommands.NONE;
    private static final Check CHECK = new Check();

    private static void tape() {
        WhoCommands x = new WhoCommands();
        CHECK.due("end(0) of nothing", x.end(0), 0);
        CHECK.due("end(1) of nothing", x.end(1), NONE);
        CHECK.due("end(-1)", x.end(-1), NONE);
        for (int n = 1; n <= 20; n++) {
            CHECK.due("feed " + n, x.feed(0, -1, 0, 0, 0), 20 * n);
        }
        CHECK.due("feed beyond 400", x.feed(0, 0, 0, 0, 0), NONE);
        CHECK.due("none came", x.count(8), 400);
        CHECK.due("end(401)", x.end(401), NONE);
        CHECK.due("end(400)", x.end(400), 400);
        CHECK.due("end(381)", x.end(381), 381);
        CHECK.due("feed to 401", x.feed(0, 0, 0, 0, 0), NONE);
        CHECK.due("end(380)", x.end(380), 380);
        CHECK.due("feed to 400", x.feed(0, 0, 0, 0, 0), 400);
        CHECK.due("a text of byte 0", x.law(), Check.fault(0, 0));
        CHECK.due("the tape is empty behind a fault", x.count(8), 0);
        CHECK.due("an empty text", x.law(), Check.fault(0, 0));
        // "firs", "t ra", "nk  ", then blanks: the highest byte of each number comes first
        x.feed(0x66697273, 0x74207261, 0x6e6b2020, 0x20202020, 0x20202020);
        CHECK.due("a law of twenty bytes", x.law(), 0);
        CHECK.due("the tape is empty behind a law", x.count(8), 0);
        CHECK.due("laws", x.count(5), 1);
    }

    private static void eightLaws() {
        WhoCommands x = new WhoCommands();
        for (int n = 0; n < 8; n++) {
            CHECK.due("law " + n, Check.law(x, "first own"), n);
        }
        Check.tape(x, "first own");
        CHECK.due("a ninth law", x.law(), NONE);
        CHECK.due("nothing happens", x.count(8), 9);
        x.end(3);
        CHECK.due("a ninth law with a fault", x.law(), NONE);
        CHECK.due("nothing happens then, too", x.count(8), 3);
        CHECK.due("eight laws", x.count(5), 8);
    }

    /** The FAULT of a text, at a place of a kind. */
    private static void fault(String text, int place, int kind) {
        CHECK.due("law of '" + text + "'", Check.law(new WhoCommands(), text), Check.fault(place, kind));
    }

    private static void good(String text) {
        CHECK.due("law of '" + text + "'", Check.law(new WhoCommands(), text), 0);
    }

    private static void strange() {
        fault("   ", 3, 0);
        fault("first", 5, 0);
        fault("first ", 6, 0);
        fault("firstrank", 0, 0);
        fault("First rank", 0, 0);
        fault("first listed", 6, 0);
        fault("first depth", 6, 0);
        fault("first 12345", 6, 0);
        fault("first rank rank", 11, 0);
        fault("first rank if", 13, 0);
        fault("first rank;", 11, 0);
        fault("first rank;;first day", 11, 0);
        fault(";first rank", 0, 0);
        fault("first rank bar 1=1", 11, 0);
        fault("bar rank", 8, 0);
        fault("bar list=1", 4, 0);
        fault("bar ranks=1", 4, 0);
        fault("bar rank=", 9, 0);
        fault("bar rank==1", 9, 0);
        fault("bar rank=<1", 9, 0);
        fault("bar rank< =1", 10, 0);
        fault("bar rank<1<2", 10, 0);
        fault("bar rank<1+", 11, 0);
        fault("bar rank<-1", 9, 0);
        fault("bar rank 12345<1", 9, 0);
        fault("bar rank1<1", 8, 0);
        fault("bar 1rank<1", 5, 0);
        fault("bar [rank=1", 11, 0);
        fault("bar rank=1]", 10, 0);
        fault("bar [rank]=1", 9, 0);
        fault("bar []", 5, 0);
        fault("bar 1+[1=1]", 6, 0);
        fault("bar 1+not 1=1", 6, 0);
        fault("bar not", 7, 0);
        fault("bar 1=1 and", 11, 0);
        fault("bar 1=1 and or 1=1", 12, 0);
        fault("bar 1=1 if 1=1", 8, 0);
        fault("bar 1=1\t", 7, 0);
        fault("bar 1=1" + (char) 233, 7, 0);
        fault("bar 1=1" + (char) 0, 7, 0);
        fault("lapse", 5, 0);
        fault("lapse first", 6, 0);
    }

    private static void limits() {
        good("bar rank>9999");
        good("bar 0000=0");
        fault("bar rank>10000", 9, 1);
        fault("bar 00000=0", 4, 1);
        good("bar [[[[[[[[[[1=1]]]]]]]]]]");
        fault("bar [[[[[[[[[[[1=1]]]]]]]]]]]", 14, 2);
        good("bar not[not[not[not[not[1=1]]]]]");
        fault("bar not[not[not[not[not[not 1=1]]]]]", 24, 2);
        fault("bar not not not not not not not not not not[1=1]", 43, 2);
        good("bar not not not not not not not not not not 1=1 and not [not 1=1]");
        good("bar [[[[[[[[[[1=1]]]]]]]]]] or [[[[[[[[[[1=1]]]]]]]]]]");
        String fifty = "1" + "+1".repeat(49);
        good("bar " + fifty + "=1+1+1+1+1+1+1+1+1");
        fault("bar " + fifty + "=1+1+1+1+1+1+1+1+1+1", 4 + 99 + 1 + 18, 3);
        fault("bar " + fifty + "=1+1+1+1+1+1+1+1+1+11111", 4 + 99 + 1 + 18, 1);
        fault("bar " + fifty + "=1+1+1+1+1+1+1+1+1+post", 4 + 99 + 1 + 18, 3);
        fault("bar " + fifty + "=1+1+1+1+1+1+1+1+1+list", 4 + 99 + 1 + 18, 0);
        fault("bar " + fifty + "+1+1+1+1+1+1+1+1+1+1<=1", 4 + 99 + 20, 3);
        fault("bar " + fifty + "+1+1+1+1+1+1+1+1+1+1", 4 + 99 + 20, 0);
        fault("bar " + fifty + "=1; first day if 1=1+1+1+1+1;bar 1=1", 4 + 99 + 34, 3);
        good("bar " + fifty + "=1; first day if 1=1+1+1+1+1+1");
        String twelve = "first own" + ";first own".repeat(11);
        good(twelve);
        fault(twelve + ";bar 1=1", 120, 4);
        fault(twelve + "; lapse", 121, 4);
        fault(twelve + ";", 120, 0);
        fault(twelve + ";own", 120, 0);
        String long400 = "first own" + " ".repeat(391);
        good(long400);
        fault(long400.substring(0, 399) + "x", 399, 0);
        fault("bar" + " ".repeat(397), 400, 0);
        fault("bar 1" + " ".repeat(394) + "<", 400, 0);
        good("bar 1<" + " ".repeat(393) + "9");
        good("bar 1<" + " ".repeat(390) + "9999");
        fault("bar 1<" + " ".repeat(389) + "99999", 395, 1);
        good("bar 1<" + " ".repeat(390) + "rank");
    }

    /** Whether a TEST holds of the one PERSON, of rank 5, day 40, service 2, post 3, for the BODY in minute 7. */
    private static void holds(String test, boolean want) {
        WhoCommands x = new WhoCommands();
        x.body(NONE, 1, 10, 10);
        x.body(0, 2, 20, 30);
        x.body(1, 2, 20, 30);
        x.person(0, 0, 0, 0, 0);
        x.person(5, 40, 2, 2, 3);
        x.list(0, 0);
        x.list(0, 1);
        x.paper(1, 0, 7, 8);
        CHECK.due("law of a bar " + test, Check.law(x, "bar " + test), 0);
        x.rules(0, 0);
        CHECK.due("it is barred: " + test, (x.may(0, 7) >> 1 & 1) == 0, want);
    }

    private static void tests() {
        holds("minute = 7", true);
        holds("rank = 5 and day = 40 and service = 2 and post = 3", true);
        holds("near = 30", true);
        holds("paper = 1", true);
        holds("listed = 2", true);
        holds("own = 0", true);
        holds("depth = 2", true);
        holds("fallen + since + doing = 0", true);
        holds("rank<5", false);
        holds("rank<=5", true);
        holds("rank>=5", true);
        holds("rank>5", false);
        holds("rank - 6 < 0", true);
        holds("10 - 3 - 2 = 5", true);
        holds("10 - 3 + 2 = 9", true);
        holds("1=1 or 1=2 and 1=2", true);
        holds("[1=1 or 1=2] and 1=2", false);
        holds("1=2 and 1=2 or 1=1", true);
        holds("not 1=2 and 1=2", false);
        holds("not [1=2 and 1=2]", true);
        holds("not not 1=1", true);
        holds("1=1 and not 1=2", true);
        holds("1=2 or not 1=1", false);
        holds("not 1=1 or 1=1", true);
        holds("1=2or rank>4and day<50", true);
        holds("9999 + 9999 - 9999 = 9999", true);
    }

    private static void rules() {
        WhoCommands x = new WhoCommands();
        CHECK.due("no body", x.rules(0, NONE), false);
        x.body(NONE, 0, 0, 0);
        x.person(1, 0, 0, 0, 0);
        x.person(2, 0, 0, 0, 0);
        CHECK.due("no law", x.rules(0, 0), false);
        CHECK.due("none at first", x.rules(0, NONE), true);
        Check.law(x, "first rank");
        Check.law(x, "first day");
        CHECK.due("law 2", x.rules(0, 2), false);
        CHECK.due("law -2", x.rules(0, -2), false);
        CHECK.due("body 1", x.rules(1, 0), false);
        CHECK.due("body -1", x.rules(-1, 0), false);
        CHECK.due("nobody yet", x.commands(0, 0), NONE);
        CHECK.due("law 0", x.rules(0, 0), true);
        CHECK.due("by it", x.commands(0, 0), 1);
        CHECK.due("wrong law", x.rules(0, 2), false);
        CHECK.due("still by it", x.commands(0, 2879), 1);
        CHECK.due("law 1", x.rules(0, 1), true);
        CHECK.due("by that", x.commands(0, 0), 0);
        CHECK.due("none again", x.rules(0, NONE), true);
        CHECK.due("nobody again", x.commands(0, 0), NONE);
    }

    public static void main(String[] args) {
        tape();
        eightLaws();
        strange();
        limits();
        tests();
        rules();
        CHECK.end("LawTest");
    }
}
