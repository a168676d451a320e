/** Terms, part II, as far as it tells who goes AHEAD, and promises 13 to 15 and 29. */
final class EdgesOfCommand {
    private static final int NONE = WhoCommands.NONE;

    private final Edges edges;

    EdgesOfCommand(Edges edges) {
        this.edges = edges;
    }

    void all() {
        goesAhead();
        paperAndList();
        postRankDay();
        nearAndOwn();
        ifs();
        alike();
        mays();
        may();
        commander();
        commands();
        ahead();
        briefs();
        brief();
    }

    /** Who of 0 and 1 goes AHEAD by a law for body 0 in minute 0, of what is told. */
    private void ahead(Edges.Telling told, String law, int who, int clause) {
        WhoCommands x = new WhoCommands();
        told.to(x);
        x.rules(0, Check.law(x, law));
        edges.due("who goes ahead by '" + law + "'", x.ahead(0, 1, 0, 0, 0), who);
        edges.due("who goes ahead by '" + law + "', the other way round", x.ahead(1, 0, 0, 0, 0), who);
        edges.due("the clause of '" + law + "'", x.ahead(0, 1, 0, 0, 1), clause);
    }

    /** Two people in body 0, alike but for what is told of the second in the row's second half. */
    private static Edges.Telling two(int... row) {
        return x -> {
            x.body(NONE, 0, 0, 0);
            x.person(row[0], row[1], row[2], 0, row[3]);
            x.person(row[4], row[5], row[6], 0, row[7]);
        };
    }

    private void goesAhead() {
        edges.term("By KEYS, clause by clause, one goes AHEAD of another one if he has less:");
        Edges.Telling told = two(5, 10, 0, 3, 4, 9, 0, 4);
        ahead(told, "first rank; first day", 0, 0);
        ahead(told, "first day; first rank", 1, 0);
        ahead(told, "first own; first day; first rank", 1, 1);
        ahead(told, "bar 1=1; lapse 1=1; first own; first post", 0, 3);
        ahead(told, "bar 1=1", 0, NONE);
        ahead(told, "lapse 1=1", 0, NONE);
        ahead(told, "first own" + ";first own".repeat(10) + ";first day", 1, 11);
    }

    private void paperAndList() {
        edges.term("paper: 0 if he has one that holds, else 1;");
        Edges.Telling alike = two(0, 0, 0, 0, 0, 0, 0, 0);
        ahead(x -> {
            alike.to(x);
            x.paper(1, 0, 0, 1);
        }, "first paper", 1, 0);
        ahead(x -> {
            alike.to(x);
            x.paper(1, 0, 1, 2);
        }, "first paper", 0, NONE);
        ahead(x -> {
            alike.to(x);
            x.paper(1, 0, 0, 1);
            x.paper(1, 0, 0, 9);
            x.paper(0, 0, 0, 1);
        }, "first paper", 0, NONE);

        edges.term("list: listed (99 without);");
        ahead(x -> {
            alike.to(x);
            x.list(0, 1);
            x.list(0, 0);
        }, "first list", 1, 0);
        ahead(x -> {
            alike.to(x);
            for (int n = 2; n < 9; n++) {
                x.person(0, 0, 0, 0, 0);
                x.list(0, n);
            }
            x.list(0, 1);
        }, "first list", 1, 0);
        ahead(alike, "first list", 0, NONE);
        ahead(x -> {
            alike.to(x);
            x.list(0, 0);
        }, "first list if listed = 0", 1, 0);
    }

    private void postRankDay() {
        edges.term("post;");
        ahead(two(0, 0, 0, 1, 0, 0, 0, 0), "first post", 1, 0);
        ahead(two(0, 0, 0, 9, 0, 0, 0, 8), "first post", 1, 0);
        ahead(two(0, 0, 0, 9, 0, 0, 0, 9), "first post", 0, NONE);

        edges.term("rank: 9 less it;");
        ahead(two(0, 0, 0, 0, 1, 0, 0, 0), "first rank", 1, 0);
        ahead(two(8, 0, 0, 0, 9, 0, 0, 0), "first rank", 1, 0);
        ahead(two(9, 0, 0, 0, 9, 0, 0, 0), "first rank", 0, NONE);

        edges.term("day;");
        ahead(two(0, 1, 0, 0, 0, 0, 0, 0), "first day", 1, 0);
        ahead(two(0, 9999, 0, 0, 0, 9998, 0, 0), "first day", 1, 0);
        ahead(two(0, 9999, 0, 0, 0, 9999, 0, 0), "first day", 0, NONE);
    }

    private void nearAndOwn() {
        edges.term("near;");
        Edges.Telling alike = two(0, 0, 0, 0, 0, 0, 0, 0);
        ahead(x -> {
            alike.to(x);
            x.step(0, 0, 99, 99);
            x.step(1, 0, 99, 98);
        }, "first near", 1, 0);
        ahead(x -> {
            alike.to(x);
            x.step(0, 0, 1, 0);
        }, "first near", 1, 0);
        ahead(x -> {
            alike.to(x);
            x.step(0, 0, 2, 3);
            x.step(1, 0, 3, 2);
        }, "first near", 0, NONE);
        ahead(x -> {
            alike.to(x);
            x.step(0, 1, 99, 99);
        }, "first near", 0, NONE);

        edges.term("own: 0 if it is, else 1;");
        ahead(two(0, 0, 1, 0, 0, 0, 0, 0), "first own", 1, 0);
        ahead(two(0, 0, 3, 0, 0, 0, 0, 0), "first own", 1, 0);
        ahead(two(0, 0, 3, 0, 0, 0, 1, 0), "first own", 0, NONE);
    }

    private void ifs() {
        edges.term("with an if whose TEST does not hold of him: 100000.");
        ahead(two(9, 0, 0, 0, 0, 9999, 0, 9), "first day if post = 9", 1, 0);
        ahead(two(9, 0, 0, 0, 0, 9999, 0, 9), "first rank if post = 9", 1, 0);
        ahead(two(9, 0, 0, 0, 0, 9999, 0, 9), "first list if post = 9", 1, 0);
        ahead(two(0, 9, 0, 0, 9, 8, 0, 0), "first rank if 1=2; first day", 1, 1);
        ahead(two(0, 9, 0, 0, 9, 8, 0, 0), "first rank if 1=1; first day", 1, 0);
        ahead(x -> {
            two(0, 0, 0, 0, 0, 0, 0, 1).to(x);
            x.step(1, 0, 99, 99);
        }, "first near if post = 1", 1, 0);
    }

    private void alike() {
        edges.term("If all are alike, the one with the least number goes AHEAD.");
        ahead(two(5, 5, 2, 5, 5, 5, 2, 5), "first paper;first list;first post;first rank;first day;first near;first own",
                0, NONE);
        WhoCommands shorter = new WhoCommands();
        two(5, 5, 2, 5, 6, 4, 2, 4).to(shorter);
        shorter.rules(0, Check.law(shorter, "first own; first rank; first day" + ";first post".repeat(9)));
        edges.due("unlike by a law of twelve clauses", shorter.commands(0, 0), 1);
        shorter.rules(0, Check.law(shorter, "first own"));
        edges.due("alike by a law of one clause behind it", shorter.commands(0, 0), 0);
        edges.due("by no clause of it", shorter.ahead(0, 1, 0, 0, 1), NONE);
        WhoCommands x = new WhoCommands();
        Worlds.allPeople(x);
        x.rules(0, Check.law(x, "bar 1=2"));
        edges.due("of twenty-four", x.commands(0, 0), 0);
        for (int n = 0; n < 23; n++) {
            x.falls(n, n);
        }
        edges.due("of the last two", x.commands(0, 21), 22);
        edges.due("the last", x.commands(0, 22), 23);
    }

    private void mays() {
        edges.term("Those who MAY command a BODY in a MINUTE: PEOPLE who stand in it or in one UNDER it, "
                + "are not FALLEN, and for whom no bar of its LAW holds.");
        WhoCommands x = new WhoCommands();
        x.body(NONE, 0, 0, 0);
        x.body(0, 0, 0, 0);
        x.body(1, 0, 0, 0);
        x.body(NONE, 0, 0, 0);
        for (int n = 0; n < 8; n++) {
            x.person(n, 0, 0, n % 4, 0);
        }
        Check.law(x, "bar rank = 4; first day; bar minute = 10 and rank = 2; bar 1=2");
        Check.law(x, "first day");
        for (int body = 0; body < 4; body++) {
            x.rules(body, body == 3 ? 1 : 0);
        }
        edges.due("in it and in two under it", x.may(0, 0), 0b01100111);
        edges.due("in it and in one under it", x.may(1, 0), 0b01100110);
        edges.due("in it alone", x.may(2, 0), 0b01000100);
        edges.due("beside, where the law has no bar", x.may(3, 0), 0b10001000);
        edges.due("a bar in its minute", x.may(0, 10), 0b01100011);
        edges.due("in the minute behind it", x.may(0, 11), 0b01100111);
        x.falls(0, 11);
        edges.due("ahead of a fall", x.may(0, 10), 0b01100011);
        edges.due("in a fall", x.may(0, 11), 0b01100110);
        x.rules(3, Check.law(x, "bar 1=1"));
        edges.due("all are barred", x.may(3, 0), 0);
    }

    private void may() {
        edges.promise(13, "Those who MAY, as bits; NONE without these (0 if it has no LAW).");
        WhoCommands x = new WhoCommands();
        Worlds.allPeople(x);
        edges.due("all of twenty-four", x.may(0, 0), 0xffffff);
        x.rules(0, NONE);
        edges.due("without a law", x.may(0, 0), 0);
        WhoCommands empty = new WhoCommands();
        empty.body(NONE, 0, 0, 0);
        edges.due("nobody is there, and no law", empty.may(0, 0), 0);
        empty.rules(0, Check.law(empty, "first rank"));
        edges.due("nobody is there", empty.may(0, 0), 0);
        edges.in(Worlds::rich);
        edges.asked("may command", 0, 0b101111, 3, 0, NONE, (y, n) -> y.may(n, 0));
        edges.asked("may in", 0, 0b101111, 2879, 0b001110, NONE, (y, n) -> y.may(0, n));
        edges.in(Worlds::allBodies);
        edges.asked("may command", 0, 0, 11, 0, NONE, (y, n) -> y.may(n, 0));
    }

    private void commander() {
        edges.term("COMMANDS: the one of these who goes AHEAD of all others; "
                + "nobody (NONE) without them, or if the BODY has no LAW.");
        WhoCommands x = new WhoCommands();
        x.body(NONE, 0, 0, 0);
        Check.law(x, "first rank; bar rank = 9; first day");
        x.rules(0, 0);
        edges.due("nobody is there", x.commands(0, 0), NONE);
        x.person(9, 0, 0, 0, 0);
        edges.due("the only one is barred", x.commands(0, 0), NONE);
        x.person(7, 5, 0, 0, 0);
        edges.due("the only one who may", x.commands(0, 0), 1);
        x.person(8, 5, 0, 0, 0);
        edges.due("one more", x.commands(0, 0), 2);
        x.person(8, 5, 0, 0, 0);
        edges.due("one more who is alike", x.commands(0, 0), 2);
        x.person(8, 4, 0, 0, 0);
        edges.due("one more of less days", x.commands(0, 0), 4);
        x.falls(4, 100);
        edges.due("ahead of his fall", x.commands(0, 99), 4);
        edges.due("in his fall", x.commands(0, 100), 2);
        x.rules(0, NONE);
        edges.due("without a law", x.commands(0, 0), NONE);
    }

    private void commands() {
        edges.promise(14, "COMMANDS; -2 without these.");
        edges.in(Worlds::rich);
        edges.asked("commands", 0, 0, 3, NONE, -2, (y, n) -> y.commands(n, 29));
        edges.asked("commands in", 0, 2, 2879, 2, -2, (y, n) -> y.commands(1, n));
        edges.in(Worlds::allBodies);
        edges.asked("commands", 0, NONE, 11, NONE, -2, (y, n) -> y.commands(n, 0));
    }

    private void ahead() {
        edges.promise(15, "Of two PEOPLE (unlike) for a BODY in a MINUTE, whether they MAY or not,");
        edges.in(Worlds::rich);
        edges.asked("ahead of 3 by near", 0, 3, 5, 3, -2, (x, n) -> x.ahead(n, 3, 2, 0, 0));
        edges.asked("3 ahead by near of", 0, 3, 5, 3, -2, (x, n) -> x.ahead(3, n, 2, 0, 0));
        edges.leaves("the first with himself", -2, x -> x.ahead(0, 0, 0, 0, 0));
        edges.leaves("the last with himself", -2, x -> x.ahead(5, 5, 0, 0, 1));
        edges.leaves("one who stands elsewhere", 4, x -> x.ahead(4, 0, 0, 0, 0));
        edges.leaves("one who has fallen", 0, x -> x.ahead(0, 1, 0, 30, 0));
        edges.leaves("two who are barred", 0, x -> x.ahead(0, 4, 2, 0, 0));

        edges.promise(15, "what 0: who goes AHEAD, 1: by which CLAUSE (from 0 on; NONE: by numbers).");
        edges.asked("ahead, what", 0, 0, 1, 1, -2, (x, n) -> x.ahead(1, 0, 0, 0, n));
        edges.leaves("by the first clause", 0, x -> x.ahead(2, 3, 0, 40, 1));
        edges.leaves("the other by his paper", 3, x -> x.ahead(2, 3, 0, 40, 0));
        edges.leaves("by the third clause", 2, x -> x.ahead(1, 2, 0, 40, 1));
        edges.leaves("by numbers", NONE, x -> x.ahead(2, 1, 2, 0, 1));
        edges.leaves("the least by numbers", 1, x -> x.ahead(2, 1, 2, 0, 0));

        edges.promise(15, "-2 without these, or if it has no LAW.");
        edges.asked("ahead for", 0, 0, 2, 1, -2, (x, n) -> x.ahead(0, 1, n, 29, 0));
        edges.asked("ahead in", 0, 1, 2879, 1, -2, (x, n) -> x.ahead(0, 1, 2, n, 0));
        edges.leaves("no law, who", -2, x -> x.ahead(0, 1, 3, 0, 0));
        edges.leaves("no law, by which clause", -2, x -> x.ahead(0, 1, 3, 0, 1));
        edges.leaves("NONE with another", -2, x -> x.ahead(NONE, 0, 0, 0, 0));
        edges.leaves("NONE with NONE", -2, x -> x.ahead(NONE, NONE, 0, 0, 0));
        edges.leaves("two who are not there", -2, x -> x.ahead(6, 7, 0, 0, 0));
    }

    /** Ten people, of whom the last told has the highest rank; the least is barred. */
    private static void ten(WhoCommands x) {
        x.body(NONE, 0, 0, 0);
        for (int n = 0; n < 10; n++) {
            x.person(n, 0, 0, 0, 0);
        }
        Check.law(x, "first rank; bar rank = 0");
        x.rules(0, 0);
        x.falls(5, 100);
        x.falls(1, 200);
    }

    private void briefs() {
        edges.term("BRIEF: the first so many (1 to 8) of those who MAY, each AHEAD of the next.");
        WhoCommands x = new WhoCommands();
        ten(x);
        edges.due("of one", x.brief(0, 0, 1, 0), 9);
        for (int k = 0; k < 8; k++) {
            edges.due("of eight, " + k, x.brief(0, 0, 8, k), 9 - k);
        }
        edges.due("of eight, without one in the middle, that ahead of him", x.brief(0, 100, 8, 3), 6);
        edges.due("of eight, without one in the middle, that behind him", x.brief(0, 100, 8, 4), 4);
        edges.due("of eight, the last of just eight", x.brief(0, 100, 8, 7), 1);
    }

    private void brief() {
        edges.promise(29, "BRIEF of so many: the k-th (from 0 on);");
        edges.in(EdgesOfCommand::ten);
        edges.asked("brief of", 1, 9, 8, 9, NONE, (x, n) -> x.brief(0, 0, n, 0));
        edges.asked("brief of eight, k", 0, 9, 7, 2, NONE, (x, n) -> x.brief(0, 0, 8, n));
        edges.asked("brief of one, k", 0, 9, 0, 9, NONE, (x, n) -> x.brief(0, 0, 1, n));

        edges.promise(29, "-2: fewer than so many MAY, whatever k;");
        edges.leaves("just eight may", 9, x -> x.brief(0, 199, 8, 0));
        edges.leaves("one fewer than eight, the first", -2, x -> x.brief(0, 200, 8, 0));
        edges.leaves("one fewer than eight, the last", -2, x -> x.brief(0, 200, 8, 7));
        edges.leaves("just seven", 2, x -> x.brief(0, 200, 7, 6));
        edges.in(Worlds::rich);
        edges.leaves("nobody may without a law", -2, x -> x.brief(3, 0, 1, 0));
        edges.leaves("one may, not two", -2, x -> x.brief(2, 0, 2, 0));

        edges.promise(29, "NONE without these (k below 0, or not below so many, too).");
        edges.asked("brief for", 0, 0, 3, -2, NONE, (x, n) -> x.brief(n, 0, 1, 0));
        edges.asked("brief in", 0, 0, 2879, 2, NONE, (x, n) -> x.brief(0, n, 1, 0));
        edges.leaves("k is so many", NONE, x -> x.brief(0, 0, 2, 2));
        edges.leaves("k below 0", NONE, x -> x.brief(0, 0, 2, -1));
        edges.leaves("k is so many, and fewer may", NONE, x -> x.brief(2, 0, 2, 2));
        edges.leaves("k below 0, and fewer may", NONE, x -> x.brief(2, 0, 2, -1));
        edges.leaves("nine, and fewer may", NONE, x -> x.brief(0, 0, 9, 0));
    }
}
