/** Promises 21 to 33: games, BARGAINS, PAIRINGS, votes, what lies there. */
public final class GamesTest {
    private static final Check CHECK = new Check("GamesTest");
    private static final int GAP = TwoInOne.GAP;
    private static final String WORK_OR_DRINK = "half a skill 3 cares 2;half b skill 1;person p of a b turn 0 1;"
        + "deed work joy skill - load load load - 1;deed drink joy 4 - load / 2 load load + 3;";

    public static void main(String[] args) {
        played();
        together();
        togetherOfTheIssue();
        togetherWraps();
        togetherOfVeryManyRows();
        nobodyPlays();
        withoutDeeds();
        wrongGames();
        longestGame();
        bargain();
        breaks();
        cares();
        bargainOfNobody();
        pairings();
        fastPairings();
        elections();
        stolen();
        CHECK.finish();
    }

    private static void played() {
        TwoInOne x = Check.of(WORK_OR_DRINK);
        // the last DAY is greedy; a knows on DAY 0 that b will drink on DAY 1 whatever comes
        CHECK.due("played(0, 0, 1)", x.played(0, 0, 1), 4);
        CHECK.lying("played(0, 0, 1)", x, 1);
        CHECK.due("played(0, 0, 2)", x.played(0, 0, 2), 4);
        CHECK.due("played(0, 1, 2)", x.played(0, 1, 2), 3);
        CHECK.lying("played(0, 1, 2)", x, 1, 1);
        CHECK.due("played(0, 0, 3)", x.played(0, 0, 3), 6);
        CHECK.due("played(0, 1, 3)", x.played(0, 1, 3), 4);
        CHECK.lying("played(0, 1, 3)", x, 0, 1, 1);
        CHECK.due("nothing is done", x.about(3), 0);
        CHECK.due("no ACT", x.about(5), 0);
        TwoInOne like = Check.of("half a skill 3;half b skill 1;person p of a b turn 0 1;"
            + "deed d joy 0 load 5;deed e joy 2 load 0;deed f joy 2 load 9;");
        CHECK.due("of like ones the first", like.played(0, 0, 3), 4);
        CHECK.lying("of like ones the first", like, 1, 1, 1);
    }

    private static void together() {
        TwoInOne x = Check.of(WORK_OR_DRINK);
        CHECK.due("together(0, 1)", x.together(0, 1), 4);
        CHECK.lying("together(0, 1)", x, 1);
        CHECK.due("together(0, 2)", x.together(0, 2), 7);
        CHECK.lying("together(0, 2)", x, 0, 1);
        TwoInOne like = Check.of("half a skill 3;half b skill 1;person p of a b turn 0 1;"
            + "deed d joy load load 0;deed e joy 0 load 5;deed f joy 0 - 1 load 6;");
        // e then d: 5; f then d: 5; two rows are alike over two DAYS, e comes first
        CHECK.due("together(0, 2)", like.together(0, 2), 5);
        CHECK.lying("together(0, 2)", like, 1, 0);
        CHECK.due("together(0, 3)", like.together(0, 3), 5);
        CHECK.lying("the first row", like, 0, 1, 0);
    }

    /** The run of calls that issue 5 tells: the row of the greatest sum does not end with what is most on the last DAY. */
    private static void togetherOfTheIssue() {
        TwoInOne x = new TwoInOne();
        CHECK.due("feed", x.feed(1751215206, 544219251, 1802071148, 540031848, 1634493984), 20);
        CHECK.due("feed", x.feed(1897952107, 1768713248, 809201765, 1920167790, 544874607), 40);
        CHECK.due("feed", x.feed(1713401888, 1897952373, 1919819824, 996435301, 1679843616), 60);
        CHECK.due("feed", x.feed(1785690400, 825372714, 825373751, 707866931, 707867191), 80);
        CHECK.due("feed", x.feed(707290209, 2034053161, 724643882, 677667193, 1026631968), 100);
        CHECK.due("feed", x.feed(1819238756, 540031844, 1701143584, 1646291567, 2032153898), 120);
        CHECK.due("feed", x.feed(677667193, 1026631968, 1819238756, 540031776, 538976288), 140);
        CHECK.due("end(135)", x.end(135), 135);
        CHECK.due("register()", x.register(), 2);
        CHECK.due("together(0, 2)", x.together(0, 2), 2147483645);
        CHECK.lying("together(0, 2)", x, 0, 1);
        x.next(0);
        x.next(1);
        CHECK.due("keeps(0, 0, 2)", x.keeps(0, 0, 2), 2147483645);
    }

    private static void togetherWraps() {
        String two = "half a skill 3;half b skill 1;person p of a b turn 0 1;";
        // twice 2000000000 is -294967296
        TwoInOne above = Check.of(two + "deed d joy 2000*1000*1000 load 0;deed e joy 0 load 0;deed f joy 0 load 5;");
        CHECK.due("once of two", above.together(0, 2), 2000000000);
        CHECK.lying("once of two", above, 0, 1);
        CHECK.due("three times wrap to more", above.together(0, 3), 2000000000);
        CHECK.lying("of like ones the first", above, 0, 1, 1);
        CHECK.due("nothing is done", above.about(3), 0);
        TwoInOne below = Check.of(two + "deed d joy 1 load 0;deed e joy 0 - 2000*1000*1000 load 0;");
        CHECK.due("once is no more", below.together(0, 1), 1);
        CHECK.due("twice wraps from below", below.together(0, 2), 294967296);
        CHECK.lying("twice wraps from below", below, 1, 1);
        CHECK.due("and one DAY more", below.together(0, 3), 294967297);
        CHECK.lying("of like ones the first", below, 0, 1, 1);
        // twice 2^31 is 0, so of twenty DAYS only the 7 is left
        TwoInOne half = Check.of(two + "deed d joy 8192*8192*32 load 0;deed e joy 8192*8192*32 + 7*(day = 19) load 0;");
        CHECK.due("together(0, 20)", half.together(0, 20), 7);
        CHECK.due("the last is e", half.lies(19), 1);
        CHECK.due("all others are d", half.lies(0) + half.lies(9) + half.lies(18), 0);
        TwoInOne dead = Check.of(two + "deed d joy 2000*1000*1000 load 0;deed e joy day load 9;");
        dead.die(1);
        CHECK.due("on DAYS of NOBODY nothing is done", dead.together(0, 4), 2000000002);
        CHECK.lying("on DAYS of NOBODY nothing is done", dead, 0, -1, 1, -1);
        dead.die(1);
        dead.days(1);
        CHECK.due("from the coming DAY on, with its LOAD", dead.together(0, 2), 2000000002);
        CHECK.lying("from the coming DAY on, with its LOAD", dead, 0, 1);
        CHECK.due("wrong together", dead.together(0, 21), GAP);
        CHECK.lying("wrong together", dead);
    }

    /** Far too many rows to try all of them. */
    private static void togetherOfVeryManyRows() {
        TwoInOne x = Check.of("half a skill 3;half b skill 1;half c skill 5;person p of a b c turn 0 1 2 2 0;"
            + "deed d joy (day+7)*(day+3)*(load+5)*9973*7919*31 load load * 3 + 1;deed e joy (load+1)*(day+9)*(day+11)*9001*8009 load load - 13;"
            + "deed f joy skill*9999*9999*(day+1)*(load+3) load load + 1;deed g joy day % 5 load 99 - load;"
            + "deed h joy (load+day*100)*(load+day)*7001*13 load load + skill;deed i joy 0 load load * load % 89;");
        CHECK.due("the greatest int is met", x.together(0, 20), Integer.MAX_VALUE);
        int[] row = new int[20];
        for (int t = 0; t < 20; t++) {
            row[t] = x.lies(t);
        }
        int done = 0;
        for (int t = 0; t < 20; t++) {
            done += x.decree(0, row[t]);
        }
        CHECK.due("the row is told", done, Integer.MAX_VALUE);
    }

    private static void nobodyPlays() {
        TwoInOne x = Check.of(WORK_OR_DRINK);
        x.die(1);
        CHECK.due("played(0, 0, 3)", x.played(0, 0, 3), 7);
        CHECK.lying("played(0, 0, 3)", x, 0, -1, 1);
        CHECK.due("played(0, 1, 3) of one who is dead", x.played(0, 1, 3), 0);
        CHECK.due("together(0, 2)", x.together(0, 2), 4);
        CHECK.lying("together(0, 2)", x, 1, -1);
        x.die(0);
        CHECK.due("together(0, 2)", x.together(0, 2), 0);
        CHECK.lying("together(0, 2)", x, -1, -1);
    }

    private static void withoutDeeds() {
        TwoInOne x = Check.of("half a skill 3;half b skill 1;person p of a b turn 0 1;");
        CHECK.due("played(0, 0, 2)", x.played(0, 0, 2), 0);
        CHECK.lying("played(0, 0, 2)", x, -1, -1);
        CHECK.due("together(0, 1)", x.together(0, 1), 0);
        CHECK.lying("together(0, 1)", x, -1);
        CHECK.due("days(3)", x.days(3), 3);
        CHECK.due("next(0)", x.next(0), -1);
        CHECK.due("breaks(0, 1)", x.breaks(0, 1), -2);
    }

    private static void wrongGames() {
        TwoInOne x = Check.of("half c skill 1;half d skill 1;half e skill 1;" + WORK_OR_DRINK + "person q of c d turn 0;");
        int[][] wrong = {{0, 3, 0}, {0, 3, 21}, {0, 3, -1}, {2, 3, 1}, {-1, 3, 1}, {0, 0, 1}, {0, 2, 1}, {0, 5, 1}, {0, -1, 1}};
        for (int[] row : wrong) {
            x.played(0, 3, 2);
            CHECK.due("wrong played", x.played(row[0], row[1], row[2]), GAP);
            CHECK.lying("wrong played", x);
        }
        int[][] none = {{0, 0}, {0, 21}, {2, 1}, {-1, 1}};
        x.next(0);
        for (int[] row : none) {
            x.played(0, 3, 2);
            CHECK.due("wrong together", x.together(row[0], row[1]), GAP);
            CHECK.lying("wrong together", x);
            CHECK.due("wrong breaks", x.breaks(row[0], row[1]), -2);
            CHECK.due("wrong cares", x.cares(row[0], row[1]), -2);
            CHECK.due("wrong keeps", x.keeps(row[0], 3, row[1]), GAP);
        }
        CHECK.due("keeps of another PERSON's", x.keeps(0, 0, 1), GAP);
        CHECK.due("keeps of nobody", x.keeps(0, 6, 1), GAP);
        x.played(0, 3, 2);
        CHECK.due("lies(-1)", x.lies(-1), -1);
        CHECK.due("lies(2)", x.lies(2), -1);
    }

    private static void longestGame() {
        TwoInOne x = Check.of("half a skill 3;half b skill 1;half c skill 5;person p of a b c turn 0 1 2 2 0;"
            + "deed d joy load % 7 load load * 3 + 1;deed e joy load / 9 load load - 13;deed f joy skill load load + 1;"
            + "deed g joy day % 5 load 99 - load;deed h joy again * 9 load load + skill;deed i joy 0 load load * load % 89;");
        int all = 0;
        for (int half = 0; half < 3; half++) {
            all += x.played(0, half, 20);
        }
        int[] row = new int[20];
        for (int i = 0; i < 20; i++) {
            row[i] = x.lies(i);
        }
        int best = x.together(0, 20);
        CHECK.due("best together is best", best >= all, true);
        int[] bestRow = new int[20];
        for (int i = 0; i < 20; i++) {
            bestRow[i] = x.lies(i);
        }
        int done = 0;
        for (int i = 0; i < 20; i++) {
            done += x.decree(0, row[i]);
        }
        CHECK.due("the row played is told", done, all);
        for (int i = 0; i < 20; i++) {
            x.undo();
        }
        done = 0;
        for (int i = 0; i < 20; i++) {
            done += x.decree(0, bestRow[i]);
        }
        CHECK.due("the row together is told", done, best);
    }

    private static void bargain() {
        TwoInOne x = Check.of(WORK_OR_DRINK);
        CHECK.due("keeps without BARGAIN", x.keeps(0, 0, 1), GAP);
        CHECK.due("breaks without BARGAIN", x.breaks(0, 1), -2);
        CHECK.due("cares without BARGAIN", x.cares(0, 1), -2);
        CHECK.due("next(-1)", x.next(-1), -1);
        CHECK.due("next(2)", x.next(2), -1);
        CHECK.due("next(0)", x.next(0), 1);
        CHECK.due("next(1)", x.next(1), 2);
        CHECK.due("about(7)", x.about(7), 2);
        // a 3 (LOAD 0), b 4 (3), a 0 (2), b 3 (5)
        CHECK.due("keeps(0, 0, 4)", x.keeps(0, 0, 4), 3);
        CHECK.due("keeps(0, 1, 4)", x.keeps(0, 1, 4), 7);
        CHECK.due("keeps(0, 1, 1)", x.keeps(0, 1, 1), 0);
        CHECK.due("hush()", x.hush(), 2);
        CHECK.due("hush()", x.hush(), 0);
        for (int i = 1; i <= 14; i++) {
            CHECK.due("next(1)", x.next(1), i);
        }
        CHECK.due("a 15th", x.next(1), -1);
        CHECK.due("about(7)", x.about(7), 14);
        CHECK.due("hush()", x.hush(), 14);
        x.next(0);
        x.days(3);
        // round and round, from the coming DAY on: DAY 3 is b's, LOAD 3: 1 - 3, LOAD 2; a: 3 - 2
        CHECK.due("LOAD", x.person(0, 0), 3 + 3);
        CHECK.due("keeps(0, 1, 2)", x.keeps(0, 1, 2), 1 - 6);
        CHECK.due("keeps(0, 0, 2)", x.keeps(0, 0, 2), 3 - 5);
    }

    private static void breaks() {
        TwoInOne x = Check.of(WORK_OR_DRINK);
        x.next(0);
        x.next(1);
        // a drinks: 4 + 1 (b greedy between) against 3 + 0
        CHECK.due("breaks(0, 4)", x.breaks(0, 4), 0);
        CHECK.due("breaks(0, 1)", x.breaks(0, 1), 0);
        x.hush();
        x.next(1);
        CHECK.due("breaks(0, 2)", x.breaks(0, 2), -1);
        // three DAYS: drinking on a has 4 + 1, by work 3, then b drinks (LOAD 3), then drinks for 3: 6
        CHECK.due("breaks(0, 3)", x.breaks(0, 3), 0);
        TwoInOne late = Check.of("half a skill 3;half b skill 1;person p of a b turn 0 1;"
            + "deed d joy 2 load load;deed e joy day load load;");
        late.next(0);
        CHECK.due("breaks(0, 2)", late.breaks(0, 2), -1);
        CHECK.due("a like one is not more", late.breaks(0, 3), -1);
        CHECK.due("b has 3 by e on DAY 3", late.breaks(0, 4), 3);
        late.days(1);
        CHECK.due("breaks(0, 2), from DAY 1", late.breaks(0, 2), -1);
        CHECK.due("breaks(0, 3), from DAY 1", late.breaks(0, 3), 2);
        TwoInOne then = Check.of("half a skill 3;half b skill 1;person p of a b turn 0 1 1;"
            + "deed d joy 2 load load;deed e joy skill = 1 and day > 1 load load;deed f joy (day = 1) * 3 load 0;");
        then.next(0);
        then.next(1);
        CHECK.due("on DAY 1 b has 3 by f", then.breaks(0, 2), 1);
        then.hush();
        then.next(0);
        then.next(2);
        CHECK.due("d, f, d holds", then.breaks(0, 3), -1);
        then.hush();
        then.next(0);
        then.next(2);
        then.next(1);
        // keeping, b has 3 + 1; by d he has 2 and then, greedy, 2: no more; on DAY 2 he has 2 instead of 1
        CHECK.due("d, f, e breaks on DAY 2", then.breaks(0, 3), 2);
    }

    private static void cares() {
        TwoInOne x = Check.of(WORK_OR_DRINK);
        x.next(0);
        x.next(1);
        CHECK.due("cares(0, 1)", x.cares(0, 1), 2);
        CHECK.due("cares(0, 2)", x.cares(0, 2), 2);
        x.hush();
        x.next(1);
        CHECK.due("cares(0, 2)", x.cares(0, 2), 0);
        TwoInOne never = Check.of("half a skill 3;half b skill 1;person p of a b turn 0 1;deed d joy 1 load 0;deed e joy 2 load 0;");
        never.next(0);
        CHECK.due("9 are not enough", never.cares(0, 1), -1);
        never.hush();
        never.next(1);
        CHECK.due("0 are enough", never.cares(0, 20), 0);
        never.next(0);
        CHECK.due("the second DAY counts, too", never.cares(0, 1), 0);
        CHECK.due("and does not choose it", never.cares(0, 2), -1);
        // d now is 1 less, e makes his DAY 4 DAYS behind cost 3
        TwoInOne later = Check.of("half a skill 3;half b skill 1;person p of a b turn 0 1 1 1;"
            + "deed d joy 5 * (skill > 1) - load load load;deed e joy 6 * (skill > 1) - load load load + 3 * (skill > 1);");
        later.next(0);
        CHECK.due("four cares", later.cares(0, 1), 4);
        // one DAY of nine is a's: he is IN again nine DAYS behind
        TwoInOne nine = Check.of("half a skill 3;half b skill 1;person p of a b turn 0 1 1 1 1 1 1 1 1;"
            + "deed d joy 5 * (skill > 1) - load load load;deed e joy 6 * (skill > 1) - load load load + 3 * (skill > 1);");
        nine.next(0);
        CHECK.due("nine cares", nine.cares(0, 1), 9);
        TwoInOne ten = Check.of("half a skill 3;half b skill 1;person p of a b turn 0 1 1 1 1 1 1 1 1 1;"
            + "deed d joy 5 * (skill > 1) - load load load;deed e joy 6 * (skill > 1) - load load load + 3 * (skill > 1);");
        ten.next(0);
        CHECK.due("nine cares are not enough", ten.cares(0, 1), -1);
        // d: LOAD is his skill; with LOAD 7 b would do e, with LOAD 2 d, whatever he cares
        TwoInOne skilled = Check.of("half a skill 7;half b skill 2;person p of a b turn 0 1;"
            + "deed d joy 1 load skill;deed e joy (load = 7) * 2 load 0;");
        skilled.next(0);
        skilled.next(1);
        CHECK.due("who did it counts for the LOAD", skilled.cares(0, 2), 0);
        CHECK.due("and then a does d", skilled.cares(0, 3), 0);
        CHECK.due("and so on", skilled.cares(0, 4), 0);
    }

    private static void bargainOfNobody() {
        TwoInOne x = Check.of("half a skill 3;half b skill 1;person p of a b turn 0 1;"
            + "deed d joy 5 - load load 1;deed e joy 6 - load * 2 load 4;");
        x.next(1);
        x.next(1);
        x.next(0);
        x.die(1);
        // DAY 0: e 6, LOAD 4; DAY 1: NOBODY, and e is passed over; DAY 2: d 1
        CHECK.due("keeps(0, 0, 3)", x.keeps(0, 0, 3), 7);
        CHECK.due("keeps(0, 1, 3)", x.keeps(0, 1, 3), 0);
        // d now: 5, LOAD 1, then greedy 4: 9 > 7
        CHECK.due("breaks(0, 3)", x.breaks(0, 3), 0);
        CHECK.due("breaks(0, 2)", x.breaks(0, 2), -1);
        CHECK.due("cares(0, 2)", x.cares(0, 2), 0);
        x.die(0);
        CHECK.due("NOBODY breaks it", x.breaks(0, 20), -1);
        CHECK.due("NOBODY needs cares", x.cares(0, 20), 0);
    }

    private static void pairings() {
        TwoInOne none = new TwoInOne();
        CHECK.due("pairing of none", none.pairing(false), 0);
        CHECK.due("fast pairing of none", none.pairing(true), 0);
        CHECK.lying("pairing of none", none);
        CHECK.due("fast of none", none.fast(), 1);
        TwoInOne x = Check.of("half a skill 2;half b skill 2;half c skill 2;half d skill 0;half e skill 0;"
            + "like a to b 1;like b to a 1;like c to d 9;like a to c 3;like c to a 2;like e to b 4;");
        // c d 9, e b 4, a is left -1
        CHECK.due("pairing(false)", x.pairing(false), 12);
        CHECK.lying("pairing(false)", x, -1, 4, 3, 2, 1);
        x.die(4);
        CHECK.due("pairing(false)", x.pairing(false), 11);
        CHECK.lying("pairing(false), e dead", x, 1, 0, 3, 2, -1);
        x.die(2);
        // of a, b, d: a b 2 less 1
        CHECK.due("pairing(false)", x.pairing(false), 1);
        CHECK.lying("pairing(false), c dead", x, 1, 0, -1, -1, -1);
        for (int half : new int[] {0, 1}) {
            x.die(half);
        }
        CHECK.due("one is left", x.pairing(false), -1);
        CHECK.lying("one is left", x, -1, -1, -1, -1, -1);
        CHECK.due("alone is FAST", x.fast(), 1);
        x.die(3);
        CHECK.due("all are dead", x.pairing(true), 0);
        CHECK.lying("all are dead", x, -1, -1, -1, -1, -1);
        TwoInOne like = Check.of("half a skill 2;half b skill 2;half c skill 2;half d skill 0;");
        CHECK.due("all alike", like.pairing(false), 0);
        CHECK.lying("all alike: the first", like, 1, 0, 3, 2);
        CHECK.due("all alike: all are FAST", like.fast(), 3);
    }

    private static void fastPairings() {
        String round = "half a skill 2;half b skill 2;half c skill 2;half d skill 0;like a to b 9;like b to c 9;like c to a 9;"
            + "like a to c 5;like b to a 5;like c to b 5;";
        TwoInOne x = Check.of(round);
        x.together(0, 1);
        CHECK.due("none is FAST", x.fast(), 0);
        CHECK.due("pairing(true)", x.pairing(true), GAP);
        CHECK.lying("pairing(true)", x);
        CHECK.due("pairing(false)", x.pairing(false), 14);
        TwoInOne two = Check.of("half a skill 1;half b skill 1;half c skill 1;half d skill 1;like a to b 1;like b to a 1;"
            + "like c to d 9;like a to c 3;like c to a 2;");
        CHECK.due("fast()", two.fast(), 2);
        CHECK.due("pairing(true)", two.pairing(true), 11);
        CHECK.lying("pairing(true)", two, 1, 0, 3, 2);
        // a and d like one another most, so the first that is FAST is not the first of all
        TwoInOne later = Check.of("half a skill 1;half b skill 1;half c skill 1;half d skill 1;like a to d 2;like d to a 2;"
            + "like a to b 1;like b to a 9;like c to d 9;");
        CHECK.due("MOST", later.pairing(false), 19);
        CHECK.due("FAST", later.pairing(true), 4);
        CHECK.lying("FAST", later, 3, 2, 1, 0);
        CHECK.due("fast()", later.fast(), 1);
        // one who is left likes all more: who is left goes with whoever likes him more than his own
        TwoInOne odd = Check.of("half a skill 1;half b skill 1;half c skill 1;like a to b 1;like b to a 1;like b to c 1;");
        // a left: a b want (b 1 = 1: no), a c: c has b 0, likes a 0: no: FAST; b left: a likes b 1 > 0, b likes a: no FAST;
        // c left: b likes c 1 = 1: no: FAST
        CHECK.due("fast()", odd.fast(), 2);
        CHECK.due("pairing(true)", odd.pairing(true), 0);
        CHECK.lying("pairing(true)", odd, -1, 2, 1);
    }

    private static void elections() {
        String six = "half a skill 1;half b skill 1;half c skill 1;half d skill 1;half e skill 1;half f skill 1;half g skill 1;"
            + "person p of a b turn 0 1;person q of c d turn 0 1;person r of e f turn 0 1 1;"
            + "favour a 2;favour c 2;favour b 1;favour e 1;favour g 1;";
        TwoInOne x = Check.of(six);
        // DAY 0: 2 2 1; DAY 1: 1 0 0; DAY 2: 2 2 0; DAY 3: 1 0 1; all: a2 b1 c2 d0 e1 f0 g1: 1 has three
        int[] due = {2, 0, 2, 1, 2, 0};
        for (int day = 0; day < due.length; day++) {
            CHECK.due("elected(" + day + ")", x.elected(day), due[day]);
        }
        CHECK.due("elected(999)", x.elected(999), x.elected(3));
        CHECK.due("elected(1000)", x.elected(1000), -1);
        CHECK.due("elected(-1)", x.elected(-1), -1);
        CHECK.due("popular()", x.popular(), 1);
        x.die(6);
        CHECK.due("popular(): of like ones the least", x.popular(), 0);
        x.die(3);
        CHECK.due("popular()", x.popular(), 1);
        CHECK.due("elected(1): of like ones the least", x.elected(1), 0);
        x.die(5);
        CHECK.due("elected(1): b alone", x.elected(1), 1);
        x.die(1);
        CHECK.due("elected(1): nobody", x.elected(1), -1);
        x.die(0);
        x.die(2);
        x.die(4);
        CHECK.due("popular(): nobody", x.popular(), -1);
    }

    private static void stolen() {
        TwoInOne x = Check.of("half a skill 1;half b skill 1;half c skill 1;person p of a b turn 0 1 1;favour a 1;");
        CHECK.due("popular()", x.popular(), 0);
        CHECK.due("stolen(0)", x.stolen(0), 0);
        CHECK.due("stolen(1)", x.stolen(1), 1);
        CHECK.due("stolen(4)", x.stolen(4), 2);
        CHECK.due("stolen(99)", x.stolen(99), 33);
        CHECK.due("stolen(100)", x.stolen(100), -1);
        CHECK.due("stolen(-1)", x.stolen(-1), -1);
        x.days(1);
        CHECK.due("stolen(2) from DAY 1", x.stolen(2), 0);
        CHECK.due("stolen(3) from DAY 1", x.stolen(3), 1);
        x.die(1);
        // a and c: 1 and 0; nobody votes on b's DAYS
        CHECK.due("nobody votes", x.stolen(2), 2);
        CHECK.due("without PERSONS", new TwoInOne().stolen(5), 5);
    }
}
