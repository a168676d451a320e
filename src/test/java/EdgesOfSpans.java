/** Terms, parts V and VI without HANGS and MARKS, and promises 27, 28 and 30 to 33. */
final class EdgesOfSpans {
    private static final int NONE = WhoCommands.NONE;

    private final Edges edges;

    EdgesOfSpans(Edges edges) {
        this.edges = edges;
    }

    void all() {
        gapsOver();
        turnsOver();
        gaps();
        doubts();
        doubtOfSeveral();
        doubtBySight();
        doubt();
        draws();
        manyFights();
        wrongFights();
        fights();
        allies();
        judgedEach();
        allied();
        mends();
        mended();
        judges();
        judge();
    }

    /** Body 0, in which 0 commands ahead of 10 and 1 in 20 to 29 and from 31 on; body 1 without anybody. */
    private static void gappy(WhoCommands x) {
        x.body(NONE, 0, 0, 0);
        x.body(NONE, 0, 0, 0);
        x.person(9, 0, 0, 0, 0);
        x.person(8, 0, 0, 0, 0);
        Check.law(x, "first rank; bar rank = 8 and minute > 9 and minute < 20; bar minute = 30");
        x.rules(0, 0);
        x.rules(1, 0);
        x.falls(0, 10);
    }

    private void gapsOver() {
        edges.term("Of a BODY over MINUTES, 300 at most: GAPS: in how many nobody COMMANDS, the longest row of these, "
                + "the first one.");
        WhoCommands x = new WhoCommands();
        gappy(x);
        int[][] want = {
            {0, 40, 11, 10, 10}, {0, 9, 0, 0, NONE}, {0, 10, 1, 1, 10}, {9, 20, 10, 10, 10}, {10, 19, 10, 10, 10},
            {12, 19, 8, 8, 12}, {19, 30, 2, 1, 19}, {20, 29, 0, 0, NONE}, {30, 30, 1, 1, 30}, {31, 31, 0, 0, NONE},
            {18, 100, 3, 2, 18}};
        for (int[] row : want) {
            for (int what = 0; what < 3; what++) {
                edges.due("what " + what + " from " + row[0] + " to " + row[1], x.gaps(0, row[0], row[1], what),
                        row[2 + what]);
            }
        }
        edges.due("300 without a gap", x.gaps(0, 31, 330, 0), 0);
        edges.due("300 of nothing else", x.gaps(1, 31, 330, 0), 300);
        edges.due("the longest of 300", x.gaps(1, 31, 330, 1), 300);
        edges.due("the first of 300", x.gaps(1, 31, 330, 2), 31);
        edges.due("the first is minute 0", x.gaps(1, 0, 0, 2), 0);
        edges.due("the last minute", x.gaps(1, 2879, 2879, 2), 2879);
        WhoCommands rows = new WhoCommands();
        rows.body(NONE, 0, 0, 0);
        rows.person(0, 0, 0, 0, 0);
        rows.rules(0, Check.law(rows, "bar minute < 3; bar minute > 4 and minute < 9; bar minute > 9 and minute < 12"));
        edges.due("the longest row lies between two others", rows.gaps(0, 0, 20, 1), 4);
        edges.due("in all", rows.gaps(0, 0, 20, 0), 9);
    }

    private void turnsOver() {
        edges.term("TURNS OVER: in how many of these but the first who COMMANDS is another one (or nobody) "
                + "than in the MINUTE ahead of it.");
        WhoCommands x = new WhoCommands();
        gappy(x);
        edges.due("in all", x.gaps(0, 0, 40, 3), 4);
        edges.due("from one to nobody", x.gaps(0, 9, 10, 3), 1);
        edges.due("from nobody to another one", x.gaps(0, 19, 20, 3), 1);
        edges.due("in the first minute it does not count", x.gaps(0, 10, 19, 3), 0);
        edges.due("one minute", x.gaps(0, 10, 10, 3), 0);
        edges.due("to nobody and back to the same", x.gaps(0, 29, 31, 3), 2);
        edges.due("nobody in all", x.gaps(1, 0, 299, 3), 0);
        WhoCommands y = new WhoCommands();
        y.body(NONE, 0, 0, 0);
        y.person(0, 0, 0, 0, 0);
        y.person(0, 0, 0, 0, 0);
        y.rules(0, Check.law(y, "first paper"));
        y.paper(1, 0, 5, 6);
        edges.due("from one to another", y.gaps(0, 4, 5, 3), 1);
        edges.due("and back", y.gaps(0, 4, 6, 3), 2);
        y.paper(1, 0, 298, 299);
        edges.due("the last two of 300", y.gaps(0, 0, 299, 3), 4);
    }

    private void gaps() {
        edges.promise(27, "GAPS from a MINUTE to another one (not ahead of it, 300 in all at most) "
                + "what 0: how many, 1: the longest, 2: the first (NONE), 3: TURNS OVER. -2 without these.");
        edges.in(Worlds::rich);
        edges.asked("gaps of", 0, 0, 3, 11, -2, (x, n) -> x.gaps(n, 0, 10, 0));
        edges.asked("gaps, what", 0, 11, 3, 0, -2, (x, n) -> x.gaps(3, 0, 10, n));
        edges.leaves("what 1", 11, x -> x.gaps(3, 0, 10, 1));
        edges.leaves("what 2", 0, x -> x.gaps(3, 0, 10, 2));
        edges.leaves("what 2 without one", NONE, x -> x.gaps(2, 0, 10, 2));
        edges.leaves("what 3", 3, x -> x.gaps(0, 0, 60, 3));
        edges.asked("from 1000 to", 1000, 1, 1299, 300, -2, (x, n) -> x.gaps(3, 1000, n, 0));
        edges.asked("to 1000 from", 701, 300, 1000, 1, -2, (x, n) -> x.gaps(3, n, 1000, 0));
        edges.asked("to 299 from", 0, 300, 299, 1, -2, (x, n) -> x.gaps(3, n, 299, 1));
        edges.asked("from 2580 to", 2580, 1, 2879, 300, -2, (x, n) -> x.gaps(3, 2580, n, 1));
        edges.leaves("wide apart", -2, x -> x.gaps(3, Integer.MIN_VALUE, Integer.MAX_VALUE, 0));
        edges.leaves("wide apart, the other way", -2, x -> x.gaps(3, Integer.MAX_VALUE, Integer.MIN_VALUE, 0));
        edges.leaves("in NONE", -2, x -> x.gaps(3, NONE, NONE, 0));
    }

    /** 0, 1 and 2 of ranks 7 to 9 in body 0 at 0, 0, at 10, 0 and at 50, 0; 3 of rank 6 under it, at 61, 0. */
    private static void scattered(WhoCommands x) {
        x.body(NONE, 0, 0, 0);
        x.body(0, 0, 61, 0);
        x.body(NONE, 0, 99, 99);
        x.person(7, 0, 0, 0, 0);
        x.person(8, 0, 0, 0, 0);
        x.person(9, 0, 0, 0, 0);
        x.person(6, 0, 0, 1, 0);
        x.step(1, 0, 10, 0);
        x.step(2, 0, 50, 0);
        Check.law(x, "first rank");
        x.rules(0, 0);
        x.rules(1, 0);
    }

    private static WhoCommands scatteredTold() {
        WhoCommands x = new WhoCommands();
        scattered(x);
        return x;
    }

    private void doubts() {
        edges.term("DOUBT: PEOPLE not FALLEN who stand in it or UNDER it: "
                + "the fall of which one in a MINUTE, then, would leave most WRONG in it");
        WhoCommands x = scatteredTold();
        edges.due("the fall of the highest", x.doubt(0, 5, 0), 2);
        edges.due("leaves all others wrong", x.doubt(0, 5, 1), 3);
        edges.due("it has not been", x.count(4), 0);
        edges.due("nobody is wrong of it", x.wrong(0, 5), 0);
        x.falls(2, 10);
        edges.due("in the minute ahead of his fall", x.doubt(0, 9, 0), 2);
        edges.due("in that of it he falls no more", x.doubt(0, 10, 0), 0);
        edges.due("those who do not know of the told fall stay wrong", x.doubt(0, 10, 1), 2);
        edges.due("one under it", x.doubt(1, 5, 0), 3);
        edges.due("nobody is left there to be wrong", x.doubt(1, 5, 1), 0);
        edges.due("nobody stands in it", x.doubt(2, 5, 0), NONE);
        WhoCommands all = new WhoCommands();
        Worlds.allPeople(all);
        for (int n = 0; n < 24; n++) {
            all.step(n, 0, n < 12 ? 50 : 99, n < 12 ? 4 * n : 4 * (n - 12));
        }
        all.sight(0);
        all.rules(0, Check.law(all, "first day if day = 23"));
        edges.due("the fall of the last of twenty-four", all.doubt(0, 0, 0), 23);
        edges.due("leaves twenty-three wrong", all.doubt(0, 0, 1), 23);
    }

    private void doubtBySight() {
        edges.term("(of all else as told; known by SIGHT and to himself alone);");
        for (int sight = 9; sight <= 11; sight++) {
            WhoCommands x = scatteredTold();
            x.sight(sight);
            x.falls(2, 0);
            x.message(false, 2, 0, 0);
            x.message(false, 2, 1, 0);
            x.message(false, 2, 3, 0);
            edges.due("the fall of 1, ten steps from 0, with sight " + sight, x.doubt(0, 5, 1), sight < 10 ? 2 : 1);
        }
        for (int steps = 10; steps <= 11; steps++) {
            WhoCommands first = crowd(24);
            for (int n = 1; n < 24; n++) {
                first.step(n, 0, steps, 0);
            }
            edges.due("the fall of the first, " + steps + " steps from others", first.doubt(0, 0, 1),
                    steps > 10 ? 23 : 0);
            WhoCommands last = crowd(24);
            last.step(23, 0, steps, 0);
            last.rules(0, Check.law(last, "bar minute < 10; first list"));
            last.list(0, 23);
            edges.due("the fall of the last, " + steps + " steps from others", last.doubt(0, 10, 1),
                    steps > 10 ? 23 : 0);
            edges.due("nobody may command", last.doubt(0, 9, 1), 0);
        }
        WhoCommands told = scatteredTold();
        for (int to = 0; to < 4; to++) {
            told.message(false, 2, to, 0);
        }
        edges.due("messages of what has not been do not count", told.doubt(0, 5, 1), 3);
        told.falls(2, 7);
        edges.due("nor do those of a fall that will be", told.doubt(0, 6, 1), 3);
        edges.due("nor is it known ahead of it", told.doubt(0, 6, 0), 2);
        WhoCommands paper = scatteredTold();
        paper.rules(0, Check.law(paper, "first paper; first rank"));
        paper.paper(0, 0, 0, 9);
        edges.due("of the three who do not know of a paper two are left wrong", paper.doubt(0, 8, 1), 2);
        edges.due("none if the one falls whom it names, so it is the next", paper.doubt(0, 8, 0), 1);
        WhoCommands place = scatteredTold();
        place.step(0, 8, 50, 1);
        place.step(3, 8, 50, 2);
        edges.due("his place in that minute: the other two see it", place.doubt(0, 8, 1), 1);
        edges.due("in the minute ahead of that they do not", place.doubt(0, 7, 1), 3);
    }

    private void doubtOfSeveral() {
        edges.term("then, would leave most WRONG in it (of all else as told; known by SIGHT and to himself alone); "
                + "of several the least.");
        WhoCommands near = scatteredTold();
        near.sight(99);
        edges.due("nobody is wrong, whoever falls: the least", near.doubt(0, 5, 0), 0);
        edges.due("none", near.doubt(0, 5, 1), 0);
        near.falls(0, 1);
        edges.due("the least who has not fallen", near.doubt(0, 5, 0), 1);
        near.rules(0, NONE);
        edges.due("without a law nobody is wrong", near.doubt(0, 5, 1), 0);
        edges.due("and the least is named", near.doubt(0, 5, 0), 1);
    }

    private void doubt() {
        edges.promise(28, "DOUBT what 0: whose fall (NONE: nobody is there), 1: how many are WRONG then (0 without). "
                + "-2 without these.");
        edges.in(EdgesOfSpans::scattered);
        edges.asked("doubt, what", 0, 2, 1, 3, -2, (x, n) -> x.doubt(0, 0, n));
        edges.asked("doubt of", 0, 2, 2, NONE, -2, (x, n) -> x.doubt(n, 0, 0));
        edges.asked("doubt in", 0, 2, 2879, 2, -2, (x, n) -> x.doubt(0, n, 0));
        edges.leaves("nobody is there, how many", 0, x -> x.doubt(2, 0, 1));
        edges.in(x -> {
            scattered(x);
            x.falls(3, 10);
        });
        edges.leaves("he is there yet", 3, x -> x.doubt(1, 9, 0));
        edges.leaves("all who are there have fallen", NONE, x -> x.doubt(1, 10, 0));
        edges.leaves("all who are there have fallen, how many", 0, x -> x.doubt(1, 10, 1));
    }

    /** Body 0 with so many people, of whom the least by number commands. */
    private static WhoCommands crowd(int people) {
        WhoCommands x = new WhoCommands();
        x.body(NONE, 0, 0, 0);
        for (int n = 0; n < people; n++) {
            x.person(0, 0, 0, 0, 0);
        }
        Check.law(x, "first rank");
        x.rules(0, 0);
        return x;
    }

    /** How many FIGHTS leave nobody, at a chance and at the next one. */
    private void draws(WhoCommands x, int seed, int chance, int n, int below, int above) {
        String what = n + " from seed " + seed + " with chance ";
        edges.due(what + chance, x.fights(0, 0, seed, chance, n, 0), below);
        edges.due(what + (chance + 1), x.fights(0, 0, seed, chance + 1, n, 0), above);
    }

    /** From seed 1 on the drawn numbers are 38 58 13 15 51 27; from 0 on 0 94 ..; from 2147483647 on 29. */
    private void draws() {
        edges.term("FIGHTS by a seed (0 to 2147483647), a chance (0 to 100): in a MINUTE, "
                + "of each PERSON not FALLEN then, by numbers: x becomes x * 1103515245 + 12345, "
                + "of 2147483648 the rest; he falls in that MINUTE if x / 65536 mod 100 is below the chance.");
        draws(crowd(1), 1, 38, 1, 0, 1);
        draws(crowd(2), 1, 58, 1, 0, 1);
        draws(crowd(3), 1, 58, 1, 0, 1);
        draws(crowd(1), 0, 0, 1, 0, 1);
        draws(crowd(1), Integer.MAX_VALUE, 29, 1, 0, 1);
        WhoCommands second = crowd(2);
        second.falls(0, 0);
        draws(second, 1, 38, 1, 0, 1);
        WhoCommands later = crowd(2);
        later.falls(0, 1);
        draws(later, 1, 58, 1, 0, 1);
        WhoCommands beside = crowd(0);
        beside.body(NONE, 0, 0, 0);
        beside.person(0, 0, 0, 1, 0);
        beside.person(0, 0, 0, 0, 0);
        draws(beside, 1, 58, 1, 0, 1);
        WhoCommands all = crowd(24);
        edges.due("none of twenty-four falls", all.fights(0, 0, 7, 0, 50, 0), 0);
        edges.due("all of twenty-four fall", all.fights(0, 0, 7, 100, 50, 0), 50);
        edges.due("nothing has happened", all.count(4), 0);
        WhoCommands one = crowd(1);
        int greatest = 0;
        for (int seed = 0; seed < 400; seed++) {
            greatest += one.fights(0, 0, seed, 99, 1, 0) == 0 ? 1 : 0;
        }
        edges.due("of 400 seeds some draw 99", greatest > 0, true);
    }

    private void manyFights() {
        edges.term("Of n FIGHTS one behind the other (1 to 50; the seed goes on; each from what is told): "
                + "after how many nobody COMMANDS the BODY in it;");
        WhoCommands one = crowd(1);
        int[] drawn = {38, 58, 13, 15, 51, 27};
        for (int n = 1; n <= drawn.length; n++) {
            for (int chance : drawn) {
                int below = 0;
                for (int i = 0; i < n; i++) {
                    below += drawn[i] < chance ? 1 : 0;
                }
                edges.due(n + " with chance " + chance, one.fights(0, 0, 1, chance, n, 0), below);
            }
        }
        draws(crowd(2), 1, 15, 2, 0, 1);
        draws(crowd(2), 1, 51, 3, 1, 2);
        draws(crowd(2), 1, 58, 3, 2, 3);
        WhoCommands nobody = crowd(0);
        edges.due("nobody is there", nobody.fights(0, 0, 1, 0, 50, 0), 50);
        WhoCommands lawless = crowd(2);
        lawless.rules(0, NONE);
        edges.due("without a law", lawless.fights(0, 0, 1, 0, 50, 0), 50);
        WhoCommands fallen = crowd(1);
        fallen.falls(0, 5);
        edges.due("in the minute ahead of his fall", fallen.fights(0, 4, 1, 0, 3, 0), 0);
        edges.due("in that of it", fallen.fights(0, 5, 1, 0, 3, 0), 3);
    }

    private void wrongFights() {
        edges.term("after how many somebody is WRONG (known by SIGHT alone, as DOUBT).");
        // From seed 1 on 0 to 3 draw 38 58 13 15, then 51 27 10 19.
        WhoCommands x = scatteredTold();
        edges.due("none falls", x.fights(0, 5, 1, 13, 1, 1), 0);
        edges.due("the highest falls, far from others", x.fights(0, 5, 1, 14, 1, 1), 1);
        edges.due("all fall", x.fights(0, 5, 1, 100, 1, 1), 0);
        edges.due("none falls in the first, the highest in the second", x.fights(0, 5, 1, 13, 2, 1), 1);
        x.message(false, 2, 0, 0);
        x.message(false, 2, 1, 0);
        x.message(false, 2, 3, 0);
        edges.due("messages of what has not been do not count", x.fights(0, 5, 1, 14, 1, 1), 1);
        x.sight(99);
        edges.due("all see it", x.fights(0, 5, 1, 14, 2, 1), 0);
        x.sight(10);
        x.rules(0, NONE);
        edges.due("without a law", x.fights(0, 5, 1, 14, 50, 1), 0);
        WhoCommands told = scatteredTold();
        told.falls(2, 3);
        edges.due("who is wrong as told is wrong after each", told.fights(0, 5, 1, 0, 50, 1), 50);
        edges.due("in the minute ahead of that", told.fights(0, 2, 1, 0, 50, 1), 0);
    }

    private void fights() {
        edges.promise(30, "FIGHTS what 0: after how many nobody COMMANDS, 1: after how many somebody is WRONG. "
                + "NONE without these.");
        edges.in(EdgesOfSpans::scattered);
        edges.asked("fights for", 0, 0, 2, 3, NONE, (x, n) -> x.fights(n, 0, 1, 14, 3, 0));
        edges.asked("fights in", 0, 0, 2879, 0, NONE, (x, n) -> x.fights(0, n, 1, 14, 3, 0));
        edges.asked("fights by seed", 0, 1, Integer.MAX_VALUE, 1, NONE, (x, n) -> x.fights(0, 0, n, 100, 1, 0));
        edges.asked("fights with chance", 0, 0, 100, 3, NONE, (x, n) -> x.fights(0, 0, 1, n, 3, 0));
        edges.asked("so many fights", 1, 1, 50, 50, NONE, (x, n) -> x.fights(0, 0, 1, 100, n, 0));
        edges.asked("fights, what", 0, 0, 1, 1, NONE, (x, n) -> x.fights(0, 0, 1, 14, 1, n));
    }

    /** 0 of rank 5 and day 9 in body 0 at 0, 0; 1 of rank 6 and day 9 in body 1 at 99, 99; body 2 without anybody. */
    private static void allies(WhoCommands x) {
        x.body(NONE, 0, 0, 0);
        x.body(NONE, 1, 99, 99);
        x.body(NONE, 2, 0, 0);
        x.person(5, 9, 0, 0, 0);
        x.person(6, 9, 0, 1, 0);
        Check.law(x, "first rank");
        Check.law(x, "first day");
        Check.law(x, "bar 1=1");
        for (int body = 0; body < 3; body++) {
            x.rules(body, 0);
        }
    }

    private void allies() {
        edges.term("ALLIED, of BODIES a, b (unlike) by a LAW in a MINUTE: "
                + "who COMMANDS the one and who the other (each by its own LAW): which of the two goes AHEAD by that LAW,");
        WhoCommands x = new WhoCommands();
        allies(x);
        edges.due("by rank", x.allied(0, 1, 0, 0), 1);
        edges.due("by rank, the other way", x.allied(1, 0, 0, 0), 1);
        edges.due("alike, the least", x.allied(1, 0, 1, 0), 0);
        edges.due("a bar of that law does not count", x.allied(0, 1, 2, 0), 0);
        x.falls(1, 10);
        edges.due("in the minute ahead of his fall", x.allied(0, 1, 0, 9), 1);

        edges.term("the one, if the other has nobody; NONE without both.");
        edges.due("in his fall the other has nobody", x.allied(0, 1, 0, 10), 0);
        edges.due("the first has nobody", x.allied(1, 0, 0, 10), 0);
        edges.due("neither has", x.allied(1, 2, 0, 10), NONE);
        edges.due("nobody stands in the other", x.allied(0, 2, 0, 0), 0);
        x.rules(1, 2);
        edges.due("all of the other are barred by its own law", x.allied(0, 1, 0, 0), 0);
        x.rules(0, NONE);
        edges.due("the one has no law, in the other all are barred", x.allied(0, 1, 0, 0), NONE);
        x.rules(1, 0);
        edges.due("the one has no law", x.allied(0, 1, 0, 0), 1);
    }

    private void judgedEach() {
        edges.term("the first judged as of a, the second as of b (one who COMMANDS both: he);");
        WhoCommands x = new WhoCommands();
        allies(x);
        int near = Check.law(x, "first near");
        int own = Check.law(x, "first own");
        int list = Check.law(x, "first list; first rank");
        int paper = Check.law(x, "first paper; first rank");
        x.step(0, 5, 1, 1);
        x.step(1, 5, 98, 99);
        edges.due("each near his own: both are there", x.allied(0, 1, near, 4), 0);
        edges.due("each near his own", x.allied(0, 1, near, 5), 1);
        edges.due("own of each", x.allied(1, 0, own, 0), 0);
        x.list(1, 0);
        edges.due("the first is on the list of the other alone", x.allied(0, 1, list, 0), 1);
        x.list(0, 0);
        edges.due("the first is on the list of his own", x.allied(0, 1, list, 0), 0);
        x.paper(0, 1, 0, 10);
        edges.due("the first has a paper for the other alone", x.allied(0, 1, paper, 0), 1);
        x.paper(0, 0, 8, 10);
        edges.due("in the minute ahead of a paper for his own", x.allied(0, 1, paper, 7), 1);
        edges.due("in that of it", x.allied(0, 1, paper, 8), 0);
        edges.due("in that till which it is", x.allied(0, 1, paper, 10), 1);
        WhoCommands both = new WhoCommands();
        both.body(NONE, 0, 0, 0);
        both.body(0, 0, 0, 0);
        both.person(3, 0, 0, 1, 0);
        both.rules(0, Check.law(both, "first rank"));
        both.rules(1, 0);
        edges.due("he commands both", both.allied(0, 1, 0, 0), 0);
        both.falls(0, 5);
        edges.due("nobody commands either", both.allied(1, 0, 0, 5), NONE);
    }

    private void allied() {
        edges.promise(31, "ALLIED; -2 without these.");
        edges.in(EdgesOfSpans::allies);
        edges.asked("a", 0, 1, 2, 1, -2, (x, n) -> x.allied(n, 1, 0, 0));
        edges.asked("b", 0, 1, 2, 1, -2, (x, n) -> x.allied(1, n, 0, 0));
        edges.asked("law", 0, 1, 2, 0, -2, (x, n) -> x.allied(0, 1, n, 0));
        edges.asked("minute", 0, 1, 2879, 1, -2, (x, n) -> x.allied(0, 1, 0, n));
        edges.leaves("the first with itself", -2, x -> x.allied(0, 0, 0, 0));
        edges.leaves("the last with itself", -2, x -> x.allied(2, 2, 0, 0));
        edges.in(x -> x.body(x.body(NONE, 0, 0, 0), 0, 0, 0));
        edges.leaves("no law is told", -2, x -> x.allied(0, 1, 0, 0));
        edges.in(Worlds::allLaws);
        edges.leaves("there is one body", -2, x -> x.allied(0, 1, 0, 0));
        WhoCommands last = new WhoCommands();
        Worlds.allLaws(last);
        last.body(NONE, 0, 0, 0);
        last.person(9, 0, 0, 1, 0);
        last.rules(1, 0);
        edges.due("the last of eight laws, by day", last.allied(0, 1, 7, 0), 2);
        edges.due("the first of eight laws, by rank", last.allied(0, 1, 0, 0), 2);
        edges.due("a ninth", last.allied(0, 1, 8, 0), -2);
    }

    private void mends() {
        edges.term("MENDED: of all LAWS told that by which, in place of a BODY's own, "
                + "DOUBT leaves the fewest WRONG in it in a MINUTE; of several the least.");
        WhoCommands x = scatteredTold();
        edges.due("the only law", x.mended(0, 5, 0), 0);
        edges.due("leaves three", x.mended(0, 5, 1), 3);
        Check.law(x, "first rank if 1=1");
        edges.due("another that leaves as many", x.mended(0, 5, 0), 0);
        Check.law(x, "first rank if rank = 8");
        edges.due("the fall of 1 is seen by one", x.mended(0, 5, 0), 2);
        edges.due("and leaves two", x.mended(0, 5, 1), 2);
        Check.law(x, "bar 1=1");
        edges.due("nobody may", x.mended(0, 5, 0), 3);
        edges.due("and nobody is wrong", x.mended(0, 5, 1), 0);
        Check.law(x, "bar 2=2");
        edges.due("of several the least", x.mended(0, 5, 0), 3);
        edges.due("its own law stays", x.commands(0, 5), 2);
        x.rules(0, NONE);
        edges.due("it has no law of its own", x.mended(0, 5, 0), 3);
        WhoCommands last = new WhoCommands();
        scattered(last);
        for (int n = 1; n < 7; n++) {
            Check.law(last, "first rank");
        }
        Check.law(last, "bar 1=1");
        edges.due("the last of eight", last.mended(0, 5, 0), 7);
        edges.due("nobody stands in it: the least", last.mended(2, 5, 0), 0);
        edges.due("and none is wrong", last.mended(2, 5, 1), 0);
    }

    private void mended() {
        edges.promise(32, "MENDED what 0: the LAW (NONE without LAWS), 1: how many are WRONG then (0 without). "
                + "-2 without these.");
        edges.in(EdgesOfSpans::scattered);
        edges.asked("mended, what", 0, 0, 1, 3, -2, (x, n) -> x.mended(0, 0, n));
        edges.asked("mended for", 0, 0, 2, 0, -2, (x, n) -> x.mended(n, 0, 0));
        edges.asked("mended in", 0, 3, 2879, 3, -2, (x, n) -> x.mended(0, n, 1));
        edges.in(x -> {
            x.body(NONE, 0, 0, 0);
            x.person(0, 0, 0, 0, 0);
        });
        edges.leaves("without laws", NONE, x -> x.mended(0, 0, 0));
        edges.leaves("without laws, how many", 0, x -> x.mended(0, 0, 1));
    }

    private void judges() {
        edges.term("JUDGE: from a MINUTE to another one (300 in all at most) the first in which COMMANDS "
                + "is not a told PERSON (NONE: in which it is not nobody).");
        WhoCommands x = new WhoCommands();
        gappy(x);
        edges.due("ahead of his fall", x.judge(0, 0, 9, 0), NONE);
        edges.due("to his fall", x.judge(0, 0, 10, 0), 10);
        edges.due("from his fall on", x.judge(0, 10, 20, 0), 10);
        edges.due("nobody, while there is nobody", x.judge(0, 10, 19, NONE), NONE);
        edges.due("nobody, till there is somebody", x.judge(0, 10, 20, NONE), 20);
        edges.due("nobody, while there is somebody", x.judge(0, 9, 19, NONE), 9);
        edges.due("another one", x.judge(0, 20, 40, 1), 30);
        edges.due("one minute", x.judge(0, 20, 20, 1), NONE);
        edges.due("one minute of another", x.judge(0, 20, 20, 0), 20);
        edges.due("300 of him", x.judge(0, 31, 330, 1), NONE);
        edges.due("the last of 300", x.judge(0, 0, 299, NONE), 0);
        edges.due("without anybody", x.judge(1, 2580, 2879, NONE), NONE);
        edges.due("without anybody, one who is not there", x.judge(1, 2580, 2879, 0), 2580);
    }

    private void judge() {
        edges.promise(33, "JUDGE: the MINUTE; NONE: it is he (or nobody) in all; -2 without these.");
        edges.in(Worlds::rich);
        edges.asked("judge of", 0, 30, 3, 0, -2, (x, n) -> x.judge(n, 0, 60, 0));
        edges.asked("judge whether it is", NONE, 0, 5, 0, -2, (x, n) -> x.judge(0, 0, 60, n));
        edges.leaves("it is he", NONE, x -> x.judge(2, 0, 60, 3));
        edges.leaves("it is nobody", NONE, x -> x.judge(3, 0, 60, NONE));
        edges.asked("from 1000 to", 1000, NONE, 1299, NONE, -2, (x, n) -> x.judge(2, 1000, n, 3));
        edges.asked("to 1000 from", 701, NONE, 1000, NONE, -2, (x, n) -> x.judge(2, n, 1000, 3));
        edges.asked("to 299 from", 0, NONE, 299, NONE, -2, (x, n) -> x.judge(2, n, 299, 3));
        edges.asked("from 2580 to", 2580, 2580, 2879, 2580, -2, (x, n) -> x.judge(2, 2580, n, 0));
        edges.leaves("wide apart", -2, x -> x.judge(2, Integer.MIN_VALUE, Integer.MAX_VALUE, 3));
        edges.leaves("wide apart, the other way", -2, x -> x.judge(2, Integer.MAX_VALUE, Integer.MIN_VALUE, 3));
    }
}
