/** The bounds of games, BARGAINS, PAIRINGS and votes, sentence by sentence of ==== 3., and of promises 21 to 33. */
public final class BoundsOfGamesTest {
    private static final Check CHECK = new Check("BoundsOfGamesTest");
    private static final int GAP = TwoInOne.GAP;
    private static final int MOST = Integer.MAX_VALUE;
    private static final int LEAST = Integer.MIN_VALUE;
    private static final int[] NO_NUMBERS_OF_DAYS = {0, 21, -1, -20, MOST, LEAST};
    private static final String TWO = "half a skill 3;half b skill 1;";
    private static final String EIGHT = "half a skill 0;half b skill 1;half c skill 2;half d skill 3;half e skill 4;half f skill 5;"
        + "half g skill 6;half h skill 7;";
    /** Behind d, the greatest int, only what is less is not more. */
    private static final String ABOVE = TWO + "person p of a b turn 0;deed d joy (8192*8192*32-1)*(day=0) load 1;"
        + "deed e joy 5*(day=0) load 0;deed f joy load load 0;";
    /** Behind d, the least int, there is one less on the second DAY. */
    private static final String BELOW = TWO + "person p of a b turn 0;deed d joy 8192*8192*32*(day=0)-load load 1;"
        + "deed e joy 3*(day=0)-load load 0;";

    public static void main(String[] args) {
        playedForSoManyDays();
        playedOfAMember();
        playingWraps();
        togetherForSoManyDays();
        togetherWraps();
        togetherJustWithin();
        togetherWrapsWithNobody();
        loadsFromNoughtTo99();
        ofLikeRowsTheFirst();
        daysOfNobody();
        withoutDeeds();
        beyondTheLastDay();
        nothingBehindAGap();
        fourteenDeedsOfABargain();
        hushed();
        bargainRoundAndRound();
        keptForSoManyDays();
        keepingWraps();
        breaksOnTheLastDay();
        noMoreIsNoBreak();
        breakingWraps();
        breaksForSoManyDays();
        caresFromNoughtToNine();
        caresForSoManyDays();
        noBargain();
        pairingsOfSoMany();
        pairingsOfLiking();
        pairingsWithWhoIsLeft();
        noneIsFast();
        moreThanTheirOthers();
        electedOnADay();
        ofLikeVotesTheLeast();
        popularOfAll();
        stolenOfSoManyDays();
        stolenBeyondTheLastDay();
        whatLiesThere();
        CHECK.finish();
    }

    /** "PLAYED for n DAYS (1 .. 20) ... The row lies there then" */
    private static void playedForSoManyDays() {
        TwoInOne x = Check.of(TWO + "person p of a b turn 0;deed d joy 1 load 0;");
        for (int n : new int[] {1, 2, 19, 20}) {
            CHECK.due("played(0, 0, " + n + ")", x.played(0, 0, n), n);
            CHECK.due("the row", x.about(12), n);
            CHECK.due("its last", x.lies(n - 1), 0);
            CHECK.due("nothing behind it", x.lies(n), -1);
        }
        for (int n : NO_NUMBERS_OF_DAYS) {
            CHECK.due("played(0, 0, " + n + ")", x.played(0, 0, n), GAP);
            CHECK.due("nothing lies there", x.about(12), 0);
        }
    }

    /** "JOY of a HALF of that PERSON; GAP if one can't be (one of another PERSON, too)." */
    private static void playedOfAMember() {
        TwoInOne x = Check.of(EIGHT + "person p of b a turn 0;person q of c h d turn 0 1 2;deed d joy 1 load 0;");
        CHECK.due("who is IN", x.played(0, 1, 3), 3);
        CHECK.due("who is never IN", x.played(0, 0, 3), 0);
        CHECK.due("the first of three", x.played(1, 2, 4), 2);
        CHECK.due("the second of three", x.played(1, 7, 4), 1);
        CHECK.due("the third of three", x.played(1, 3, 4), 1);
        int[][] wrong = {{0, 2}, {0, 7}, {1, 0}, {1, 1}, {0, 4}, {1, 4}, {0, -1}, {0, 8}, {0, MOST}, {0, LEAST}, {-1, 0}, {2, 0},
            {2, 4}, {MOST, 0}, {LEAST, 0}, {-1, 4}, {-1, -1}};
        for (int[] row : wrong) {
            CHECK.due("played(" + row[0] + ", " + row[1] + ", 1)", x.played(row[0], row[1], 1), GAP);
            CHECK.due("nothing lies there", x.about(12), 0);
        }
    }

    private static void playingWraps() {
        TwoInOne above = Check.of(ABOVE);
        CHECK.due("the greatest", above.played(0, 0, 1), MOST);
        CHECK.lying("the greatest", above, 0);
        CHECK.due("one more on the DAY behind it is the least", above.played(0, 0, 2), 5);
        CHECK.lying("one more on the DAY behind it is the least", above, 1, 0);
        TwoInOne below = Check.of(BELOW);
        CHECK.due("the least is not done", below.played(0, 0, 1), 3);
        CHECK.lying("the least is not done", below, 1);
        CHECK.due("one less on the DAY behind it is the greatest", below.played(0, 0, 2), MOST);
        CHECK.lying("one less on the DAY behind it is the greatest", below, 0, 0);
    }

    /** "TOGETHER for n DAYS (1 .. 20): JOY of all; GAP if one can't be." */
    private static void togetherForSoManyDays() {
        TwoInOne x = Check.of(TWO + "person p of a b turn 0 1;deed d joy 1 load 0;");
        for (int n : new int[] {1, 2, 19, 20}) {
            CHECK.due("together(0, " + n + ")", x.together(0, n), n);
            CHECK.due("the row", x.about(12), n);
            CHECK.due("its last", x.lies(n - 1), 0);
        }
        for (int n : NO_NUMBERS_OF_DAYS) {
            CHECK.due("together(0, " + n + ")", x.together(0, n), GAP);
            CHECK.due("nothing lies there", x.about(12), 0);
        }
        for (int person : new int[] {-1, 1, MOST, LEAST}) {
            x.together(0, 1);
            CHECK.due("together(" + person + ", 1)", x.together(person, 1), GAP);
            CHECK.due("nothing lies there", x.about(12), 0);
        }
    }

    private static void togetherWraps() {
        TwoInOne above = Check.of(ABOVE);
        CHECK.due("the greatest, and nothing more", above.together(0, 2), MOST);
        CHECK.lying("the greatest, and nothing more", above, 0, 0);
        TwoInOne below = Check.of(BELOW);
        CHECK.due("the least, and one less", below.together(0, 2), MOST);
        CHECK.lying("the least, and one less", below, 0, 0);
        // once more the greatest is -2, and three times 2^31 - 3
        TwoInOne three = Check.of(TWO + "person p of a b turn 0 1;deed d joy 8192*8192*32-1 load 0;deed e joy 0-1 load 0;");
        CHECK.due("once of one", three.together(0, 1), MOST);
        CHECK.due("once of two", three.together(0, 2), MOST - 1);
        CHECK.lying("once of two", three, 0, 1);
        CHECK.due("three of three", three.together(0, 3), MOST - 2);
        CHECK.lying("three of three: of like ones the first", three, 0, 0, 0);
    }

    /** The greatest int, the least int, and one beyond each. */
    private static void togetherJustWithin() {
        String two = TWO + "person p of a b turn 0 1;";
        TwoInOne most = Check.of(two + "deed d joy (8192*8192*32-1-7)*(day=0) load 0;deed e joy 7*(day=1) load 0;");
        CHECK.due("the greatest", most.together(0, 2), MOST);
        CHECK.lying("the greatest", most, 0, 1);
        TwoInOne above = Check.of(two + "deed d joy (8192*8192*32-1-7)*(day=0) load 0;deed e joy 8*(day=1) load 0;");
        CHECK.due("one more", above.together(0, 2), MOST - 7);
        CHECK.lying("one more", above, 0, 0);
        TwoInOne least = Check.of(two + "deed d joy (8192*8192*32+5)*(day=0)-5*(day=1) load 0;deed e joy 1 load 0;");
        CHECK.due("the least", least.together(0, 2), 2);
        CHECK.lying("the least", least, 1, 1);
        TwoInOne below = Check.of(two + "deed d joy (8192*8192*32+5)*(day=0)-6*(day=1) load 0;deed e joy 1 load 0;");
        CHECK.due("one less", below.together(0, 2), MOST);
        CHECK.lying("one less", below, 0, 0);
    }

    private static void togetherWrapsWithNobody() {
        TwoInOne x = Check.of(TWO + "person p of a b turn 1 0 0;deed d joy 1 load 0;deed e joy 0 - 2000*1000*1000 load 0;");
        x.die(1);
        CHECK.due("once", x.together(0, 2), 1);
        CHECK.lying("once", x, -1, 0);
        CHECK.due("twice wraps from below", x.together(0, 3), 294967296);
        CHECK.lying("twice wraps from below", x, -1, 1, 1);
        CHECK.due("and NOBODY again", x.together(0, 4), 294967296);
        CHECK.lying("and NOBODY again", x, -1, 1, 1, -1);
    }

    /** "0 at least, 99 at most": both on DAYS side by side. */
    private static void loadsFromNoughtTo99() {
        TwoInOne x = Check.of(TWO + "person p of a b turn 0;deed d joy 0 load 200;deed e joy load load 0 - 7;");
        for (int n = 2; n <= 20; n++) {
            CHECK.due("together(0, " + n + ")", x.together(0, n), n / 2 * 99);
            int odd = n % 2;
            CHECK.due("d first", x.lies(0), 0);
            CHECK.due("e, or d once more", x.lies(1), 1 - odd);
            CHECK.due("the last is e", x.lies(n - 1), 1);
            CHECK.due("played(0, 0, " + n + ")", x.played(0, 0, n), n / 2 * 99);
            CHECK.due("played: e, or d once more", x.lies(1), 1 - odd);
        }
        x.next(0);
        x.next(1);
        CHECK.due("kept", x.keeps(0, 0, 20), 990);
    }

    /** "of like ones the first" */
    private static void ofLikeRowsTheFirst() {
        TwoInOne x = Check.of(TWO + "person p of a b turn 0 1;deed d joy 1 load 3;deed e joy 1 load 0;deed f joy 1 load 3;");
        x.played(0, 0, 3);
        CHECK.lying("played", x, 0, 0, 0);
        x.together(0, 3);
        CHECK.lying("together", x, 0, 0, 0);
        TwoInOne last = Check.of(TWO + "person p of a b turn 0 1;deed d joy 0 load 3;deed e joy 1 load 0;deed f joy 1 load 3;");
        last.played(0, 0, 3);
        CHECK.lying("played, not the first DEED", last, 1, 1, 1);
        last.together(0, 3);
        CHECK.lying("together, not the first DEED", last, 1, 1, 1);
    }

    /** "(On DAYS of NOBODY nothing is done; in rows that is told as NONE.)" */
    private static void daysOfNobody() {
        TwoInOne x = Check.of(TWO + "person p of a b turn 1 0;deed d joy 1 + load load load + 1;");
        x.die(1);
        CHECK.due("played", x.played(0, 0, 4), 3);
        CHECK.lying("played", x, -1, 0, -1, 0);
        CHECK.due("played of who is dead", x.played(0, 1, 4), 0);
        CHECK.due("together", x.together(0, 3), 1);
        CHECK.lying("together", x, -1, 0, -1);
        x.die(0);
        CHECK.due("played by NOBODY", x.played(0, 0, 2), 0);
        CHECK.lying("played by NOBODY", x, -1, -1);
        CHECK.due("together, NOBODY", x.together(0, 20), 0);
        CHECK.due("twenty lie there", x.about(12), 20);
    }

    /** "(Without DEEDS ... nothing is done.)" */
    private static void withoutDeeds() {
        TwoInOne x = Check.of(TWO + "person p of a b turn 1 0;");
        CHECK.due("played", x.played(0, 0, 2), 0);
        CHECK.lying("played", x, -1, -1);
        CHECK.due("together", x.together(0, 3), 0);
        CHECK.lying("together", x, -1, -1, -1);
        CHECK.due("still GAP for 21 DAYS", x.played(0, 0, 21), GAP);
        CHECK.due("a BARGAIN has no DEED", x.next(0), -1);
    }

    /** DAYS that are only asked for may be beyond DAY 900. */
    private static void beyondTheLastDay() {
        TwoInOne x = Check.of(TWO + "person p of a b turn 0;deed d joy day load 0;");
        for (int i = 0; i < 15; i++) {
            x.days(60);
        }
        int sum = 0;
        for (int day = 900; day < 920; day++) {
            sum += day;
        }
        x.next(0);
        CHECK.due("played", x.played(0, 0, 20), sum);
        CHECK.due("together", x.together(0, 20), sum);
        CHECK.due("keeps", x.keeps(0, 0, 20), sum);
        CHECK.due("breaks", x.breaks(0, 20), -1);
        CHECK.due("cares", x.cares(0, 20), 0);
        CHECK.due("nothing is done", x.about(3), 900);
    }

    /** "(behind GAP: nothing)" */
    private static void nothingBehindAGap() {
        TwoInOne x = Check.of(EIGHT + "person p of a b turn 0 1;deed d joy 1 load 0;");
        x.together(0, 5);
        CHECK.due("played", x.played(0, 2, 5), GAP);
        CHECK.lying("behind played", x);
        x.together(0, 5);
        CHECK.due("together", x.together(0, 0), GAP);
        CHECK.lying("behind together", x);
        x.together(0, 5);
        CHECK.due("keeps tells no row", x.keeps(0, 2, 5), GAP);
        CHECK.lying("keeps tells no row", x, 0, 0, 0, 0, 0);
        CHECK.due("breaks tells no row", x.breaks(0, 0), -2);
        CHECK.lying("breaks tells no row", x, 0, 0, 0, 0, 0);
    }

    /** "how many are told; NONE, doing nothing, if there is none such, or there are 14." */
    private static void fourteenDeedsOfABargain() {
        TwoInOne x = Check.of(TWO + "person p of a b turn 0;deed d joy 0 load 0;deed e joy 1 load 0;");
        for (int wrong : new int[] {-1, 2, MOST, LEAST}) {
            CHECK.due("next(" + wrong + ")", x.next(wrong), -1);
            CHECK.due("none is told", x.about(7), 0);
        }
        for (int i = 1; i <= 14; i++) {
            CHECK.due("next(" + i % 2 + ")", x.next(i % 2), i);
        }
        CHECK.due("a fifteenth", x.next(1), -1);
        CHECK.due("fourteen are told", x.about(7), 14);
        // e on the first DAY, then by turns; the fifteenth DAY is the first again
        CHECK.due("kept 14 DAYS", x.keeps(0, 0, 14), 7);
        CHECK.due("kept 15 DAYS", x.keeps(0, 0, 15), 8);
    }

    /** "No BARGAIN is told: how many DEEDS it had." */
    private static void hushed() {
        TwoInOne x = Check.of(TWO + "person p of a b turn 0;deed d joy 0 load 0;deed e joy 1 load 0;");
        CHECK.due("none", x.hush(), 0);
        x.next(0);
        CHECK.due("one", x.hush(), 1);
        CHECK.due("none is left", x.hush(), 0);
        for (int i = 0; i < 14; i++) {
            x.next(0);
        }
        CHECK.due("fourteen", x.hush(), 14);
        CHECK.due("about(7)", x.about(7), 0);
        CHECK.due("from the first on", x.next(1), 1);
        CHECK.due("only that", x.keeps(0, 0, 3), 3);
    }

    /** "done DAY by DAY, round and round" */
    private static void bargainRoundAndRound() {
        TwoInOne one = Check.of(TWO + "person p of a b turn 0;deed d joy 0 load 0;deed e joy 1 load 0;");
        one.next(1);
        CHECK.due("one DEED", one.keeps(0, 0, 20), 20);
        for (int size = 2; size <= 14; size++) {
            TwoInOne x = Check.of(TWO + "person p of a b turn 0;deed d joy 0 load 0;deed e joy 1 load 0;");
            for (int i = 1; i < size; i++) {
                x.next(0);
            }
            x.next(1);
            for (int n = 1; n <= 20; n++) {
                CHECK.due("the last of " + size + ", " + n + " DAYS", x.keeps(0, 0, n), n / size);
            }
        }
        TwoInOne x = Check.of(TWO + "person p of a b turn 0;deed d joy 0 load 0;deed e joy 1 load 0;");
        x.next(1);
        x.next(0);
        x.next(0);
        x.days(4);
        CHECK.due("from the coming DAY on", x.keeps(0, 0, 1), 1);
        CHECK.due("whichever it is", x.keeps(0, 0, 4), 2);
    }

    /** "by the BARGAIN kept for n DAYS (1 .. 20); GAP if one can't be." */
    private static void keptForSoManyDays() {
        TwoInOne x = Check.of(EIGHT + "person p of b a turn 0;person q of c h d turn 0 1 2;deed d joy 1 load 0;");
        x.next(0);
        CHECK.due("keeps(0, 1, 1)", x.keeps(0, 1, 1), 1);
        CHECK.due("keeps(0, 1, 20)", x.keeps(0, 1, 20), 20);
        CHECK.due("who is never IN", x.keeps(0, 0, 20), 0);
        CHECK.due("the third", x.keeps(1, 3, 20), 6);
        for (int n : NO_NUMBERS_OF_DAYS) {
            CHECK.due("keeps(0, 1, " + n + ")", x.keeps(0, 1, n), GAP);
        }
        int[][] wrong = {{0, 2}, {1, 0}, {0, 4}, {1, 4}, {0, -1}, {0, 8}, {0, MOST}, {0, LEAST}, {-1, 0}, {2, 0}, {MOST, 0}, {LEAST, 0},
            {-1, 4}};
        for (int[] row : wrong) {
            CHECK.due("keeps(" + row[0] + ", " + row[1] + ", 1)", x.keeps(row[0], row[1], 1), GAP);
        }
    }

    private static void keepingWraps() {
        TwoInOne above = Check.of(ABOVE);
        above.next(0);
        above.next(2);
        CHECK.due("the greatest", above.keeps(0, 0, 1), MOST);
        CHECK.due("one more", above.keeps(0, 0, 2), LEAST);
        TwoInOne below = Check.of(BELOW);
        below.next(0);
        CHECK.due("the least", below.keeps(0, 0, 1), LEAST);
        CHECK.due("one less", below.keeps(0, 0, 2), MOST);
    }

    /** "BREAK: the first DAY on which it does not."; "which DAY (from 0: the coming one); NONE if it HOLDS" */
    private static void breaksOnTheLastDay() {
        // by e one has as much as the DAY is: on DAY 18 no more than by d, on DAY 19 one more
        TwoInOne x = Check.of(TWO + "person p of a b turn 0 1;deed d joy 18 load 0;deed e joy day load 0;");
        x.next(0);
        CHECK.due("19 DAYS", x.breaks(0, 19), -1);
        CHECK.due("20 DAYS", x.breaks(0, 20), 19);
        x.days(1);
        CHECK.due("from the coming DAY on, 18 DAYS", x.breaks(0, 18), -1);
        CHECK.due("from the coming DAY on, 19 DAYS", x.breaks(0, 19), 18);
        // by e a has 18 on DAY 18, and 20 on DAY 20, both GREEDY: two more than twice 18
        CHECK.due("from the coming DAY on, 20 DAYS", x.breaks(0, 20), 17);
        x.hush();
        x.next(1);
        CHECK.due("the coming one is 0", x.breaks(0, 20), 0);
        CHECK.due("one DAY", x.breaks(0, 1), 0);
    }

    /** "if who is IN has no more by another DEED on that DAY" */
    private static void noMoreIsNoBreak() {
        for (int more = -1; more <= 1; more++) {
            TwoInOne x = Check.of(TWO + "person p of a b turn 0 1;deed d joy 5 load 0;deed e joy " + (5 + more) + " load 0;");
            x.next(0);
            CHECK.due("one DAY, " + more + " more", x.breaks(0, 1), more > 0 ? 0 : -1);
            CHECK.due("20 DAYS, " + more + " more", x.breaks(0, 20), more > 0 ? 0 : -1);
        }
        TwoInOne one = Check.of(TWO + "person p of a b turn 0 1;deed d joy 0 - 9 load 99;");
        one.next(0);
        CHECK.due("there is no other DEED", one.breaks(0, 20), -1);
        TwoInOne own = Check.of(TWO + "person p of a b turn 0 1;deed d joy 5 load 0;deed e joy 5 - 9 * (skill = 1) load 0;");
        own.next(1);
        CHECK.due("what b has is nothing to a", own.breaks(0, 2), 1);
        CHECK.due("b's DAY is not among them", own.breaks(0, 1), -1);
    }

    private static void breakingWraps() {
        TwoInOne above = Check.of(ABOVE);
        above.next(0);
        above.next(2);
        CHECK.due("the greatest is kept", above.breaks(0, 1), -1);
        CHECK.due("by one more it is the least", above.breaks(0, 2), 0);
        TwoInOne below = Check.of(BELOW);
        below.next(0);
        CHECK.due("the least is not kept", below.breaks(0, 1), 0);
        CHECK.due("by one less it is the greatest", below.breaks(0, 2), -1);
    }

    /** "BREAK for n DAYS (1 .. 20) ...; -2 if one can't be (no BARGAIN, too)." */
    private static void breaksForSoManyDays() {
        TwoInOne x = Check.of(TWO + "person p of a b turn 0 1;deed d joy 5 load 0;");
        x.next(0);
        CHECK.due("breaks(0, 1)", x.breaks(0, 1), -1);
        CHECK.due("breaks(0, 20)", x.breaks(0, 20), -1);
        for (int n : NO_NUMBERS_OF_DAYS) {
            CHECK.due("breaks(0, " + n + ")", x.breaks(0, n), -2);
        }
        for (int person : new int[] {-1, 1, MOST, LEAST}) {
            CHECK.due("breaks(" + person + ", 1)", x.breaks(person, 1), -2);
        }
    }

    /** "CARES: the fewest cares (0 .. 9)"; "NONE if 9 are not enough" */
    private static void caresFromNoughtToNine() {
        for (int days = 1; days <= 10; days++) {
            TwoInOne x = Check.of(TWO + "person p of a b turn 0" + Check.times(" 1", days - 1) + ";"
                + "deed d joy 5 * (skill > 1) - load load load;deed e joy 6 * (skill > 1) - load load load + 3 * (skill > 1);");
            x.next(0);
            CHECK.due("seen " + days + " behind", x.cares(0, 1), days <= 9 ? days : -1);
            x.hush();
            x.next(1);
            CHECK.due("without any", x.cares(0, 1), 0);
        }
    }

    /** "CARES for n DAYS (1 .. 20) ...; -2 if one can't be (no BARGAIN, too)." */
    private static void caresForSoManyDays() {
        // on DAY 19 e is more, on all others d
        TwoInOne x = Check.of(TWO + "person p of a b turn 0 1;deed d joy 5 load 0;deed e joy (day = 19) * 6 load 0;");
        x.next(0);
        CHECK.due("cares(0, 1)", x.cares(0, 1), 0);
        CHECK.due("cares(0, 19)", x.cares(0, 19), 0);
        CHECK.due("cares(0, 20)", x.cares(0, 20), -1);
        for (int n : NO_NUMBERS_OF_DAYS) {
            CHECK.due("cares(0, " + n + ")", x.cares(0, n), -2);
        }
        for (int person : new int[] {-1, 1, MOST, LEAST}) {
            CHECK.due("cares(" + person + ", 1)", x.cares(person, 1), -2);
        }
    }

    /** "(no BARGAIN, too)" */
    private static void noBargain() {
        TwoInOne x = Check.of(TWO + "person p of a b turn 0 1;deed d joy 5 load 0;");
        for (int i = 0; i < 2; i++) {
            CHECK.due("breaks", x.breaks(0, 1), -2);
            CHECK.due("cares", x.cares(0, 1), -2);
            CHECK.due("keeps", x.keeps(0, 0, 1), GAP);
            x.next(0);
            CHECK.due("breaks, one told", x.breaks(0, 1), -1);
            CHECK.due("cares, one told", x.cares(0, 1), 0);
            CHECK.due("keeps, one told", x.keeps(0, 0, 1), 5);
            x.hush();
        }
    }

    private static String halves(int n) {
        StringBuilder text = new StringBuilder();
        for (int i = 0; i < n; i++) {
            text.append("half ").append((char) ('a' + i)).append(" skill 1;");
        }
        return text.toString();
    }

    /** "HALVES that are alive two by two (one is left, if they are odd ...)"; "of like ones the first" */
    private static void pairingsOfSoMany() {
        int[] fast = {1, 1, 1, 3, 3, 15, 15, 105, 105};
        for (int n = 0; n <= 8; n++) {
            TwoInOne x = Check.of(halves(n));
            int odd = n % 2;
            int[] others = new int[n];
            for (int half = 0; half < n; half++) {
                others[half] = odd == 0 ? half ^ 1 : half == 0 ? -1 : (half - 1 ^ 1) + 1;
            }
            CHECK.due("MOST of " + n, x.pairing(false), -odd);
            CHECK.lying("MOST of " + n, x, others);
            CHECK.due("the first FAST of " + n, x.pairing(true), -odd);
            CHECK.lying("the first FAST of " + n, x, others);
            CHECK.due("nobody likes one more: all of " + n + " are FAST", x.fast(), fast[n]);
        }
        TwoInOne dead = Check.of(halves(8));
        for (int half = 7; half >= 0; half--) {
            dead.die(half);
            CHECK.due("with the dead: MOST", dead.pairing(false), -(half % 2));
            CHECK.due("with the dead: by HALVES", dead.about(12), 8);
            CHECK.due("with the dead: NONE", dead.lies(half), -1);
            CHECK.due("with the dead: FAST", dead.fast(), fast[half]);
        }
        CHECK.lying("all are dead", dead, -1, -1, -1, -1, -1, -1, -1, -1);
    }

    /** "MOST: what all like their others, together" */
    private static void pairingsOfLiking() {
        StringBuilder text = new StringBuilder(EIGHT);
        String[] pairs = {"ah", "bg", "cf", "de"};
        for (String pair : pairs) {
            text.append("like ").append(pair.charAt(0)).append(" to ").append(pair.charAt(1)).append(" 9;");
            text.append("like ").append(pair.charAt(1)).append(" to ").append(pair.charAt(0)).append(" 9;");
        }
        TwoInOne x = Check.of(text.toString());
        CHECK.due("as much as can be", x.pairing(false), 72);
        CHECK.lying("the last of all", x, 7, 6, 5, 4, 3, 2, 1, 0);
        CHECK.due("it is FAST", x.pairing(true), 72);
        CHECK.due("no other is", x.fast(), 1);
        x.die(7);
        CHECK.due("a is left", x.pairing(false), 53);
        CHECK.lying("a is left", x, -1, 6, 5, 4, 3, 2, 1, -1);
    }

    /** "(... to him nobody is liked as -1)"; "who is left: that counts as his own number" */
    private static void pairingsWithWhoIsLeft() {
        // a left: 1 - 1; b left: 1 - 1; c left: 0 - 1: of like ones the first
        TwoInOne x = Check.of(halves(3) + "like b to c 1;like c to a 1;");
        CHECK.due("a is left", x.pairing(false), 0);
        CHECK.lying("a is left", x, -1, 2, 1);
        // a left: 0 - 1; b left: 0 - 1; c left: 1 - 1
        TwoInOne last = Check.of(halves(3) + "like a to b 1;");
        CHECK.due("c is left", last.pairing(false), 0);
        CHECK.lying("c is left", last, 1, 0, -1);
        last.die(0);
        last.die(1);
        CHECK.due("alone", last.pairing(false), -1);
        CHECK.lying("alone", last, -1, -1, -1);
        CHECK.due("alone is FAST", last.pairing(true), -1);
        CHECK.due("there is one", last.fast(), 1);
    }

    /** "GAP if none is FAST. ... (... behind GAP: nothing)" */
    private static void noneIsFast() {
        TwoInOne x = Check.of(halves(3) + "like a to b 2;like b to c 2;like c to a 2;like a to c 1;like b to a 1;like c to b 1;");
        CHECK.due("none", x.fast(), 0);
        CHECK.due("MOST", x.pairing(false), 2);
        CHECK.due("three lie there", x.about(12), 3);
        CHECK.due("pairing(true)", x.pairing(true), GAP);
        CHECK.lying("pairing(true)", x);
        x.die(0);
        CHECK.due("of two there is one", x.fast(), 1);
        CHECK.due("of two there is one", x.pairing(true), 3);
    }

    /** "no two, not a pair, like one another more than their others (one who is left likes all more)" */
    private static void moreThanTheirOthers() {
        // a b, c d always is; a c, b d is, if not both a and b like one another more
        for (int more = 0; more <= 1; more++) {
            for (int back = 0; back <= 1; back++) {
                TwoInOne x = Check.of(halves(4) + "like a to b " + (3 + more) + ";like b to a " + (3 + back)
                    + ";like a to c 3;like c to a 9;like b to d 3;like d to b 9;");
                CHECK.due("a likes b by " + more + ", b a by " + back + " more", x.fast(), more + back == 2 ? 1 : 2);
                CHECK.due("the first", x.pairing(true), 6 + more + back);
                CHECK.lying("the first", x, 1, 0, 3, 2);
            }
        }
        // a left: c would leave b for him; b left: a would not leave c for as much; c left: a would not leave b
        TwoInOne as = Check.of(halves(3) + "like a to b 1;like a to c 1;like c to a 1;");
        CHECK.due("b left is, c left is", as.fast(), 2);
        CHECK.due("c left is the first", as.pairing(true), 0);
        CHECK.lying("c left is the first", as, 1, 0, -1);
        TwoInOne more = Check.of(halves(3) + "like a to b 2;like a to c 1;like c to a 1;");
        // b left: a would leave c for him; c left: a would not leave b for him; a left: b has 0 by c, and by a
        CHECK.due("c left alone is", more.fast(), 1);
        CHECK.due("c is left", more.pairing(true), 1);
        CHECK.lying("c is left", more, 1, 0, -1);
    }

    private static final String VOTERS = EIGHT + "person p of a b turn 0 1;person q of c d turn 0 1;person r of e f turn 0 1;"
        + "person s of g h turn 0 1;";

    /** "ELECTION on a DAY (0 .. 999): who is elected; NONE if nobody votes, or one can't be." */
    private static void electedOnADay() {
        TwoInOne x = Check.of(TWO + "person p of a b turn 0 1;favour b 2;");
        CHECK.due("elected(0)", x.elected(0), 0);
        CHECK.due("elected(1)", x.elected(1), 2);
        CHECK.due("elected(998)", x.elected(998), 0);
        CHECK.due("elected(999)", x.elected(999), 2);
        for (int day : new int[] {-1, 1000, MOST, LEAST}) {
            CHECK.due("elected(" + day + ")", x.elected(day), -1);
        }
        x.die(1);
        CHECK.due("nobody votes", x.elected(1), -1);
        CHECK.due("a votes", x.elected(0), 0);
        CHECK.due("without PERSONS", Check.of(TWO).elected(0), -1);
        CHECK.due("new", new TwoInOne().elected(0), -1);
    }

    /** "the one of most votes; of like ones the least" */
    private static void ofLikeVotesTheLeast() {
        TwoInOne x = Check.of(VOTERS + "favour c 1;favour e 2;favour g 2;favour f 2;favour h 2;");
        CHECK.due("0 1 2 2", x.elected(0), 2);
        CHECK.due("0 0 2 2", x.elected(1), 0);
        x.die(4);
        CHECK.due("0 1 2", x.elected(0), 0);
        x.die(0);
        CHECK.due("1 2", x.elected(0), 1);
        x.die(2);
        CHECK.due("2", x.elected(0), 2);
        x.die(6);
        CHECK.due("nobody", x.elected(0), -1);
        x.die(0);
        CHECK.due("0", x.elected(0), 0);
    }

    /** "that which most HALVES that are alive favour; of like ones the least"; "NONE if nobody is alive." */
    private static void popularOfAll() {
        TwoInOne x = Check.of(EIGHT + "favour c 1;favour d 1;favour e 2;favour f 2;favour g 2;favour h 1;");
        CHECK.due("two, three, three", x.popular(), 1);
        x.die(2);
        CHECK.due("two, two, three", x.popular(), 2);
        x.die(4);
        CHECK.due("two, two, two", x.popular(), 0);
        x.die(0);
        CHECK.due("one, two, two", x.popular(), 1);
        x.die(3);
        CHECK.due("one, one, two", x.popular(), 2);
        x.die(5);
        x.die(6);
        x.die(7);
        CHECK.due("b alone", x.popular(), 0);
        x.die(1);
        CHECK.due("nobody is alive", x.popular(), -1);
        CHECK.due("without HALVES", new TwoInOne().popular(), -1);
    }

    /** "STOLEN of n DAYS (0 .. 99) from the coming one on: how many; NONE for another number." */
    private static void stolenOfSoManyDays() {
        // 0 is popular, and b votes for 1
        TwoInOne x = Check.of(TWO + "half c skill 1;person p of a b turn 0 0 1;favour b 1;");
        CHECK.due("stolen(0)", x.stolen(0), 0);
        CHECK.due("stolen(2)", x.stolen(2), 0);
        CHECK.due("stolen(3)", x.stolen(3), 1);
        CHECK.due("stolen(98)", x.stolen(98), 32);
        CHECK.due("stolen(99)", x.stolen(99), 33);
        for (int n : new int[] {-1, 100, MOST, LEAST}) {
            CHECK.due("stolen(" + n + ")", x.stolen(n), -1);
        }
        x.days(2);
        CHECK.due("from the coming one on", x.stolen(1), 1);
        x.die(0);
        // 1 and 0 are alike: 0 is popular; on two of three DAYS nobody votes
        CHECK.due("or nobody votes", x.stolen(99), 99);
        x.die(1);
        x.die(2);
        CHECK.due("nobody is alive", x.stolen(99), 99);
        CHECK.due("without PERSONS", Check.of(TWO).stolen(99), 99);
        CHECK.due("new", new TwoInOne().stolen(7), 7);
    }

    private static void stolenBeyondTheLastDay() {
        TwoInOne x = Check.of(TWO + "person p of a b turn 0 1;favour a 1;");
        for (int i = 0; i < 15; i++) {
            x.days(60);
        }
        CHECK.due("DAYS 900 to 998", x.stolen(99), 50);
        CHECK.due("DAY 900", x.stolen(1), 1);
    }

    /** "The i-th number of what lies there; NONE if there is none such (it may be that, too)." */
    private static void whatLiesThere() {
        TwoInOne x = Check.of(TWO + "person p of a b turn 0 1;deed d joy 1 load 0;");
        CHECK.due("nothing", x.lies(0), -1);
        CHECK.due("nothing lies there", x.about(12), 0);
        x.die(1);
        x.together(0, 20);
        CHECK.due("twenty lie there", x.about(12), 20);
        CHECK.due("lies(0)", x.lies(0), 0);
        CHECK.due("lies(18)", x.lies(18), 0);
        CHECK.due("lies(19), which is NONE", x.lies(19), -1);
        for (int i : new int[] {-1, 20, 21, MOST, LEAST}) {
            CHECK.due("lies(" + i + ")", x.lies(i), -1);
        }
        x.together(0, 1);
        CHECK.due("one lies there", x.about(12), 1);
        CHECK.due("what lay behind it is gone", x.lies(2), -1);
        x.pairing(false);
        CHECK.due("two lie there, by HALVES", x.about(12), 2);
        x.alibis(0, 0);
        CHECK.due("three lie there", x.about(12), 3);
    }
}
