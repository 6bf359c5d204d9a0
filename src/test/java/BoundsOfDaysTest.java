/** The bounds of DAYS, LOADS, formulas, ACTS and RECORDS, sentence by sentence of ==== 2., and of promises 6 to 20. */
public final class BoundsOfDaysTest {
    private static final Check CHECK = new Check("BoundsOfDaysTest");
    private static final int GAP = TwoInOne.GAP;
    private static final int MOST = Integer.MAX_VALUE;
    private static final int LEAST = Integer.MIN_VALUE;
    private static final String TWO = "half a skill 3;half b skill 1;";
    private static final String EIGHT = "half a skill 0;half b skill 1;half c skill 2;half d skill 3;half e skill 4;half f skill 5;"
        + "half g skill 6;half h skill 7;";
    /** The least int, and the greatest. */
    private static final String LOW = "(8192*8192*32)";
    private static final String HIGH = "(8192*8192*32-1)";

    public static void main(String[] args) {
        halvesAsked();
        likesAsked();
        personsAsked();
        roundAndRound();
        nobodyIn();
        loadFromNoughtTo99();
        againOnTheFirstDay();
        dividedByNought();
        intsWrap();
        relationsAndWhatIsNotNought();
        greatestJoy();
        caresFromNoughtToNine();
        caresReachSoFar();
        choosingWraps();
        nothingToChoose();
        joysAsked();
        recordsAsked();
        recordsWrap();
        lowestTerms();
        guiltAsked();
        sixtyDays();
        nineHundredDays();
        decreesOnTheLastDay();
        decreesRefused();
        placesExchanged();
        diedAndAlive();
        pranks();
        pranksOfSeveral();
        pranksWithoutPersons();
        nothingToUndo();
        fortyActs();
        redoneTillAnotherAct();
        eachActIsUndone();
        undoneOnANewObject();
        theLastOfEach();
        undoneBehindManyActs();
        greedyBehind();
        CHECK.finish();
    }

    /** "NONE if there is none such, or for another what." "its PERSON (NONE)" */
    private static void halvesAsked() {
        TwoInOne x = Check.of(EIGHT + "person p of a h turn 0;");
        CHECK.due("the first's PERSON", x.half(0, 0), 0);
        CHECK.due("the last's PERSON", x.half(7, 0), 0);
        CHECK.due("of no PERSON", x.half(1, 0), -1);
        CHECK.due("the last's skill", x.half(7, 1), 7);
        for (int half : new int[] {-1, 8, 9, MOST, LEAST}) {
            for (int what = 0; what <= 4; what++) {
                CHECK.due("half(" + half + ", " + what + ")", x.half(half, what), -1);
            }
        }
        for (int what : new int[] {-1, 5, MOST, LEAST}) {
            CHECK.due("half(0, " + what + ")", x.half(0, what), -1);
        }
    }

    /** "NONE if one can't be (itself, too)." */
    private static void likesAsked() {
        TwoInOne x = Check.of(EIGHT + "like a to h 9;like h to a 8;");
        CHECK.due("likes(0, 7)", x.likes(0, 7), 9);
        CHECK.due("likes(7, 0)", x.likes(7, 0), 8);
        CHECK.due("not told", x.likes(7, 6), 0);
        for (int half = 0; half < 8; half++) {
            CHECK.due("itself", x.likes(half, half), -1);
        }
        for (int wrong : new int[] {-1, 8, MOST, LEAST}) {
            CHECK.due("likes(" + wrong + ", 0)", x.likes(wrong, 0), -1);
            CHECK.due("likes(0, " + wrong + ")", x.likes(0, wrong), -1);
        }
        CHECK.due("of no two", x.likes(8, 8), -1);
    }

    /** "NONE if there is none such, or for another what." */
    private static void personsAsked() {
        TwoInOne x = Check.of(EIGHT + "person p of a b turn 0;person q of c d e turn 0 1 2 0 1 2 0 1 2 0 1 2 0 1;");
        CHECK.due("LOAD 0 at first", x.person(0, 0), 0);
        CHECK.due("one place", x.person(0, 1), 1);
        CHECK.due("two HALVES", x.person(0, 2), 2);
        CHECK.due("fourteen places", x.person(1, 1), 14);
        CHECK.due("three HALVES", x.person(1, 2), 3);
        for (int wrong : new int[] {-1, 2, MOST, LEAST}) {
            CHECK.due("person(" + wrong + ", 1)", x.person(wrong, 1), -1);
        }
        for (int what : new int[] {-1, 3, MOST, LEAST}) {
            CHECK.due("person(0, " + what + ")", x.person(0, what), -1);
        }
    }

    /** "whose place its turn tells (round and round)"; "on a DAY (0 .. 999) ...; -2 if one can't be." */
    private static void roundAndRound() {
        TwoInOne x = Check.of(EIGHT + "person p of a b c turn 0 1 2 0 1 2 0 1 2 0 1 2 0 1;person q of e d turn 1;");
        int[] turn = {0, 1, 2, 0, 1, 2, 0, 1, 2, 0, 1, 2, 0, 1};
        for (int day = 0; day < 30; day++) {
            CHECK.due("in(0, " + day + ")", x.in(0, day), turn[day % 14]);
        }
        CHECK.due("in(0, 999): place 5", x.in(0, 999), 2);
        CHECK.due("in(0, 998): place 4", x.in(0, 998), 1);
        CHECK.due("one place", x.in(1, 999), 3);
        for (int day : new int[] {-1, 1000, 1001, MOST, LEAST}) {
            CHECK.due("in(0, " + day + ")", x.in(0, day), -2);
        }
        for (int person : new int[] {-1, 2, MOST, LEAST}) {
            CHECK.due("in(" + person + ", 0)", x.in(person, 0), -2);
        }
        x.days(60);
        CHECK.due("DAYS are numbered from 0 on, whatever has come", x.in(0, 1), 1);
    }

    /** "NOBODY, if it is dead." "(... if NOBODY is IN, nothing is done.)" */
    private static void nobodyIn() {
        TwoInOne x = Check.of(TWO + "person p of a b turn 0 1;deed d joy 1 load load + 1;");
        x.die(0);
        x.die(1);
        CHECK.due("NOBODY", x.in(0, 0), -1);
        CHECK.due("NOBODY", x.in(0, 999), -1);
        CHECK.due("no such DAY", x.in(0, 1000), -2);
        CHECK.due("DAYS go by", x.days(60), 60);
        CHECK.due("nothing is done", x.record(0, 0) + x.record(1, 0), 0);
        CHECK.due("LOAD stays", x.person(0, 0), 0);
        x.die(1);
        CHECK.due("days(3)", x.days(3), 63);
        CHECK.due("b did it once", x.record(1, 0), 1);
        CHECK.due("LOAD", x.person(0, 0), 1);
    }

    /** "the LOAD then is that, 0 at least, 99 at most." "A PERSON has a LOAD (0 at first)." */
    private static void loadFromNoughtTo99() {
        String[] formulas = {"0 - 1", "0", "1", "98", "99", "100", "101", "9999", LOW, HIGH, LOW + "+ 5", "0 - 9999", "99 + 1 - 1"};
        int[] due = {0, 0, 1, 98, 99, 99, 99, 99, 0, 99, 0, 0, 99};
        for (int i = 0; i < formulas.length; i++) {
            TwoInOne x = Check.of(TWO + "person p of a b turn 0 1;deed d joy load load " + formulas[i] + ";");
            CHECK.due("0 at first", x.joy(0, 0), 0);
            x.days(1);
            CHECK.due("LOAD by " + formulas[i], x.person(0, 0), due[i]);
            CHECK.due("as the formulas see it", x.joy(0, 0), due[i]);
        }
        TwoInOne x = Check.of(TWO + "person p of a b turn 0 1;deed d joy load load load + 1;");
        x.days(60);
        x.days(39);
        CHECK.due("99 DAYS", x.person(0, 0), 99);
        x.days(1);
        CHECK.due("100 DAYS", x.person(0, 0), 99);
    }

    /** "again (1, if that one was IN the DAY before, else 0; on DAY 0: 0)" */
    private static void againOnTheFirstDay() {
        TwoInOne one = Check.of(TWO + "person p of a b turn 1;deed d joy again load 0;");
        CHECK.due("DAY 0", one.joy(0, 0), 0);
        one.days(1);
        CHECK.due("DAY 1", one.joy(0, 0), 1);
        // the last place and the first are a's: on DAY 3 it is again, on DAY 0 it is not
        TwoInOne round = Check.of(TWO + "person p of a b turn 0 1 0;deed d joy again load 0;");
        int[] due = {0, 0, 0, 1, 0, 0, 1};
        for (int day = 0; day < due.length; day++) {
            CHECK.due("DAY " + day, round.joy(0, 0), due[day]);
            round.days(1);
        }
        TwoInOne dead = Check.of(TWO + "person p of a b turn 0 1;deed d joy again + 5 load 0;");
        dead.die(0);
        dead.days(1);
        CHECK.due("NOBODY was IN the DAY before", dead.joy(0, 0), 5);
    }

    /** JOY of a formula on DAY 1 of one whose skill is 1, with LOAD 4. */
    private static int joyOf(String formula) {
        TwoInOne x = Check.of(TWO + "person p of a b turn 0 1;deed d joy " + formula + " load 4;");
        x.days(1);
        return x.joy(0, 0);
    }

    /** "/ cut, % its rest, both by 0: 0" */
    private static void dividedByNought() {
        Object[][] rows = {
            {"7 / 0", 0}, {"7 % 0", 0}, {"0 / 0", 0}, {"0 % 0", 0}, {LOW + " / 0", 0}, {HIGH + " % 0", 0}, {"1 + 7 / (load - 4)", 1},
            {"1 + 7 % (load - 4)", 1}, {"7 / 2", 3}, {"(0 - 7) / 2", -3}, {"7 / (0 - 2)", -3}, {"(0 - 7) / (0 - 2)", 3},
            {"7 % 2", 1}, {"(0 - 7) % 2", -1}, {"7 % (0 - 2)", 1}, {"(0 - 7) % (0 - 2)", -1}, {"1 / 2", 0}, {"(0 - 1) / 2", 0},
            {"1 % 2", 1}, {"2 % 2", 0}, {LOW + " / (0 - 1)", LEAST}, {LOW + " % (0 - 1)", 0}, {HIGH + " / (0 - 1)", -MOST},
            {LOW + " / 1", LEAST}, {LOW + " / 2", LEAST / 2}, {LOW + " % 10", -8}, {HIGH + " % 10", 7},
        };
        for (Object[] row : rows) {
            CHECK.due("joy of " + row[0], joyOf((String) row[0]), (Integer) row[1]);
        }
    }

    /** "(ints, wrapping ...)" */
    private static void intsWrap() {
        CHECK.due("the least", joyOf(LOW), LEAST);
        CHECK.due("the greatest", joyOf(HIGH), MOST);
        CHECK.due("one more", joyOf(HIGH + " + 1"), LEAST);
        CHECK.due("one less", joyOf(LOW + " - 1"), MOST);
        CHECK.due("the least taken away", joyOf("0 - " + LOW), LEAST);
        CHECK.due("twice the greatest", joyOf(HIGH + " * 2"), -2);
        CHECK.due("twice the least", joyOf(LOW + " * 2"), 0);
        CHECK.due("9999 three times", joyOf("9999 * 9999 * 9999"), 9999 * 9999 * 9999);
        CHECK.due("46340 twice", joyOf("(9999*4+6344)*(9999*4+6344)"), 2147395600);
        CHECK.due("46341 twice", joyOf("(9999*4+6345)*(9999*4+6345)"), -2147479015);
        CHECK.due("greatest and greatest", joyOf(HIGH + " + " + HIGH), -2);
        CHECK.due("least and least", joyOf(LOW + " + " + LOW), 0);
        CHECK.due("least less greatest", joyOf(LOW + " - " + HIGH), 1);
    }

    /** "relations, and, or, not are 1 or 0, of what is not 0" */
    private static void relationsAndWhatIsNotNought() {
        Object[][] rows = {
            {LOW + " < " + HIGH, 1}, {LOW + " > " + HIGH, 0}, {HIGH + " > " + LOW, 1}, {HIGH + " < " + LOW, 0}, {LOW + " = " + LOW, 1},
            {LOW + " < 1", 1}, {"1 < " + LOW, 0}, {"3 < 4", 1}, {"4 < 4", 0}, {"5 < 4", 0}, {"3 > 4", 0}, {"4 > 4", 0}, {"5 > 4", 1},
            {"3 = 4", 0}, {"4 = 4", 1}, {"5 = 4", 0}, {"not 0", 1}, {"not 1", 0}, {"not 2", 0}, {"not (0 - 1)", 0}, {"not " + LOW, 0},
            {"2 and 4", 1}, {"0 - 1 and 0 - 2", 1}, {"0 and 4", 0}, {"4 and 0", 0}, {"0 and 0", 0}, {LOW + " and " + HIGH, 1},
            {"2 or 4", 1}, {"0 - 1 or 0", 1}, {"0 or 4", 1}, {"0 or 0", 0}, {"0 or " + LOW, 1}, {"not not 9999", 1},
        };
        for (Object[] row : rows) {
            CHECK.due("joy of " + row[0], joyOf((String) row[0]), (Integer) row[1]);
        }
    }

    /** "GREEDY: who is IN does the DEED of the greatest JOY; of like ones the first." */
    private static void greatestJoy() {
        String person = TWO + "person p of a b turn 0 1;";
        CHECK.due("all are the least", Check.of(person + "deed d joy " + LOW + " load 0;deed e joy " + LOW + " load 0;").chooses(0, 0), 0);
        CHECK.due("one more than the least",
            Check.of(person + "deed d joy " + LOW + " load 0;deed e joy " + LOW + "+1 load 0;").chooses(0, 0), 1);
        CHECK.due("the greatest, twice",
            Check.of(person + "deed d joy " + HIGH + "-1 load 0;deed e joy " + HIGH + " load 0;deed f joy " + HIGH + " load 0;")
                .chooses(0, 0), 1);
        CHECK.due("greatest against least",
            Check.of(person + "deed d joy " + LOW + " load 0;deed e joy " + HIGH + " load 0;").chooses(0, 0), 1);
        CHECK.due("the last of six", Check.of(person + "deed d joy 0 load 0;deed e joy 0 load 0;deed f joy 0 load 0;deed g joy 0 load 0;"
            + "deed h joy 0 load 0;deed i joy 1 load 0;").chooses(0, 0), 5);
        CHECK.due("the first of six", Check.of(person + "deed d joy 0 load 0;deed e joy 0 load 0;deed f joy 0 load 0;deed g joy 0 load 0;"
            + "deed h joy 0 load 0;deed i joy 0 load 0;").chooses(0, 9), 0);
    }

    /** "with cares (0 .. 9; NONE: his own); ...; -2 if one can't be." */
    private static void caresFromNoughtToNine() {
        TwoInOne x = Check.of(TWO + "person p of a b turn 0 1;deed d joy 1 load 0;");
        for (int cares = -1; cares <= 9; cares++) {
            CHECK.due("chooses(0, " + cares + ")", x.chooses(0, cares), 0);
        }
        for (int cares : new int[] {-2, 10, MOST, LEAST}) {
            CHECK.due("chooses(0, " + cares + ")", x.chooses(0, cares), -2);
        }
        for (int person : new int[] {-1, 1, MOST, LEAST}) {
            CHECK.due("chooses(" + person + ", 0)", x.chooses(person, 0), -2);
        }
    }

    /** A turn in which the first is IN again so many DAYS behind; with that he sees that e costs him 3 then, for 1 more now. */
    private static TwoInOne seenBehind(int days, String cares) {
        return Check.of("half a skill 3 cares " + cares + ";half b skill 1;person p of a b turn 0" + Check.times(" 1", days - 1) + ";"
            + "deed d joy 5 * (skill > 1) - load load load;deed e joy 6 * (skill > 1) - load load load + 3 * (skill > 1);");
    }

    /** "JOY on that DAY, and on all his own of the c DAYS behind it" */
    private static void caresReachSoFar() {
        for (int days = 1; days <= 10; days++) {
            TwoInOne x = seenBehind(days, "0");
            for (int cares = 0; cares <= 9; cares++) {
                CHECK.due("seen " + days + " behind with cares " + cares, x.chooses(0, cares), cares < days ? 1 : 0);
            }
            CHECK.due("his own cares: 0", x.chooses(0, -1), 1);
        }
        for (int days = 8; days <= 10; days++) {
            TwoInOne x = seenBehind(days, "9");
            CHECK.due("his own cares: 9", x.chooses(0, -1), days <= 9 ? 0 : 1);
            x.days(1);
            CHECK.due("in earnest, too", x.record(0, 0), days <= 9 ? 1 : 0);
        }
        TwoInOne late = Check.of("half a skill 3;half b skill 1;person p of a b turn 0;deed d joy 1 load load + 1;deed e joy load load 0;");
        for (int i = 0; i < 15; i++) {
            late.days(60);
        }
        CHECK.due("on the last DAY one cares beyond it", late.chooses(0, 9) >= 0, true);
    }

    /** "(sums are ints, wrapping)" */
    private static void choosingWraps() {
        // d: the greatest int now, and one more by f on the DAY behind: the least int
        TwoInOne above = Check.of(TWO + "person p of a b turn 0;deed d joy " + HIGH + "*(day=0) load 1;deed e joy 5*(day=0) load 0;"
            + "deed f joy load load 0;");
        CHECK.due("the greatest", above.chooses(0, 0), 0);
        CHECK.due("one more wraps", above.chooses(0, 1), 1);
        // d: the least int now, and one less on the DAY behind: the greatest int
        TwoInOne below = Check.of(TWO + "person p of a b turn 0;deed d joy " + LOW + "*(day=0)-load load 1;"
            + "deed e joy 3*(day=0)-load load 0;");
        CHECK.due("the least", below.chooses(0, 0), 1);
        CHECK.due("one less wraps", below.chooses(0, 1), 0);
    }

    /** "(Without DEEDS, or if NOBODY is IN, nothing is done.)"; "NONE: nothing" */
    private static void nothingToChoose() {
        TwoInOne idle = Check.of(TWO + "person p of a b turn 0 1;");
        CHECK.due("without DEEDS", idle.chooses(0, 0), -1);
        CHECK.due("without DEEDS, his own cares", idle.chooses(0, -1), -1);
        CHECK.due("without DEEDS, wrong cares", idle.chooses(0, 10), -2);
        CHECK.due("without DEEDS, no PERSON", idle.chooses(1, 0), -2);
        CHECK.due("DAYS go by", idle.days(7), 7);
        CHECK.due("LOAD stays", idle.person(0, 0), 0);
        CHECK.due("JOY in all", idle.record(0, -1), 0);
        TwoInOne dead = Check.of(TWO + "person p of a b turn 0 1;deed d joy 1 load 0;");
        dead.die(0);
        CHECK.due("NOBODY", dead.chooses(0, 9), -1);
        CHECK.due("NOBODY, his own cares", dead.chooses(0, -1), -1);
        CHECK.due("NOBODY, wrong cares", dead.chooses(0, -2), -2);
    }

    /** "JOY of a DEED on the coming DAY; GAP if one can't be, or NOBODY is IN." */
    private static void joysAsked() {
        TwoInOne x = Check.of(TWO + "person p of a b turn 0 1;deed d joy day load 0;deed e joy 0 - 1000*1000*1000 load 0;");
        CHECK.due("DAY 0", x.joy(0, 0), 0);
        CHECK.due("JOY may be as much itself", x.joy(0, 1), GAP);
        for (int wrong : new int[] {-1, 2, MOST, LEAST}) {
            CHECK.due("joy(0, " + wrong + ")", x.joy(0, wrong), GAP);
        }
        for (int wrong : new int[] {-1, 1, MOST, LEAST}) {
            CHECK.due("joy(" + wrong + ", 0)", x.joy(wrong, 0), GAP);
        }
        for (int i = 0; i < 15; i++) {
            x.days(60);
        }
        CHECK.due("DAY 900", x.joy(0, 0), 900);
        x.die(0);
        CHECK.due("NOBODY", x.joy(0, 0), GAP);
        CHECK.due("without DEEDS", Check.of(TWO + "person p of a b turn 0;").joy(0, 0), GAP);
    }

    /** "How often a HALF did a DEED (NONE: its JOY in all); GAP if one can't be." */
    private static void recordsAsked() {
        TwoInOne x = Check.of(EIGHT + "person p of h a turn 0 0 1;deed d joy 2 load 0;deed e joy 0 load 0;");
        CHECK.due("before", x.record(7, 0), 0);
        x.days(3);
        CHECK.due("the last HALF", x.record(7, 0), 2);
        CHECK.due("its JOY", x.record(7, -1), 4);
        CHECK.due("the first", x.record(0, 0), 1);
        CHECK.due("of no PERSON", x.record(3, 0), 0);
        CHECK.due("of no PERSON, JOY", x.record(3, -1), 0);
        CHECK.due("not done", x.record(7, 1), 0);
        for (int wrong : new int[] {-2, 2, MOST, LEAST}) {
            CHECK.due("record(0, " + wrong + ")", x.record(0, wrong), GAP);
        }
        for (int wrong : new int[] {-1, 8, MOST, LEAST}) {
            CHECK.due("record(" + wrong + ", 0)", x.record(wrong, 0), GAP);
            CHECK.due("record(" + wrong + ", -1)", x.record(wrong, -1), GAP);
        }
        CHECK.due("without DEEDS: JOY", Check.of(TWO).record(1, -1), 0);
        CHECK.due("without DEEDS: a DEED", Check.of(TWO).record(1, 0), GAP);
    }

    /** JOY in all is an int, too, that wraps. */
    private static void recordsWrap() {
        TwoInOne x = Check.of(TWO + "person p of a b turn 0;deed d joy " + HIGH + " load 0;deed e joy " + LOW + " load 0;deed f joy 1 load 0;");
        x.decree(0, 0);
        CHECK.due("the greatest", x.record(0, -1), MOST);
        x.decree(0, 2);
        CHECK.due("one more", x.record(0, -1), LEAST);
        x.decree(0, 1);
        CHECK.due("and the least", x.record(0, -1), 0);
    }

    /** "the upper part (0), the lower part (1), in lowest terms (0, 1 if it was not done)" */
    private static void lowestTerms() {
        TwoInOne x = Check.of(EIGHT + "person p of a b turn 0 1 1 0 0 0;person q of c d turn 0;deed d joy 1 load 0;deed e joy 0 load 0;");
        CHECK.due("not done: upper", x.guilt(0, 0, 0), 0);
        CHECK.due("not done: lower", x.guilt(0, 0, 1), 1);
        x.days(6);
        // a did it 4 times of 12, b 2, c 6
        int[][] due = {{1, 3}, {1, 6}, {1, 2}, {0, 1}, {0, 1}, {0, 1}, {0, 1}, {0, 1}};
        for (int half = 0; half < 8; half++) {
            CHECK.due("upper of " + half, x.guilt(0, half, 0), due[half][0]);
            CHECK.due("lower of " + half, x.guilt(0, half, 1), due[half][1]);
        }
        CHECK.due("e was not done: upper", x.guilt(1, 0, 0), 0);
        CHECK.due("e was not done: lower", x.guilt(1, 0, 1), 1);
        x.decree(0, 1);
        CHECK.due("all of it: upper", x.guilt(1, 0, 0), 1);
        CHECK.due("all of it: lower", x.guilt(1, 0, 1), 1);
        CHECK.due("nothing of it: upper", x.guilt(1, 2, 0), 0);
        CHECK.due("nothing of it: lower", x.guilt(1, 2, 1), 1);
        // c's seventh: 7 of 13
        CHECK.due("no common divisor: upper", x.guilt(0, 2, 0), 7);
        CHECK.due("no common divisor: lower", x.guilt(0, 2, 1), 13);
    }

    /** "NONE if one can't be." */
    private static void guiltAsked() {
        TwoInOne x = Check.of(TWO + "person p of a b turn 0;deed d joy 1 load 0;");
        x.days(1);
        for (int wrong : new int[] {-1, 1, MOST, LEAST}) {
            CHECK.due("guilt(" + wrong + ", 0, 0)", x.guilt(wrong, 0, 0), -1);
        }
        for (int wrong : new int[] {-1, 2, MOST, LEAST}) {
            CHECK.due("guilt(0, " + wrong + ", 1)", x.guilt(0, wrong, 1), -1);
            CHECK.due("guilt(0, 0, " + wrong + ")", x.guilt(0, 0, wrong), -1);
        }
        CHECK.due("the last HALF", x.guilt(0, 1, 1), 1);
        CHECK.due("without DEEDS", Check.of(TWO).guilt(0, 0, 0), -1);
    }

    /** "So many DAYS (0 .. 60): the coming DAY then; NONE, doing nothing, for another number" */
    private static void sixtyDays() {
        TwoInOne x = Check.of(TWO + "person p of a b turn 0;deed d joy 1 load 0;");
        for (int n : new int[] {-1, 61, 900, 901, MOST, LEAST}) {
            CHECK.due("days(" + n + ")", x.days(n), -1);
            CHECK.due("no DAY went by", x.about(3), 0);
            CHECK.due("no ACT", x.about(5), 0);
        }
        CHECK.due("days(0)", x.days(0), 0);
        CHECK.due("it is an ACT", x.about(5), 1);
        CHECK.due("days(1)", x.days(1), 1);
        CHECK.due("days(60)", x.days(60), 61);
        CHECK.due("done", x.record(0, 0), 61);
        CHECK.due("three ACTS", x.about(5), 3);
        TwoInOne none = new TwoInOne();
        CHECK.due("without PERSONS", none.days(60), 60);
        CHECK.due("without PERSONS: an ACT", none.about(5), 1);
    }

    /** "or if it would be above 900." */
    private static void nineHundredDays() {
        TwoInOne x = Check.of(TWO + "person p of a b turn 0;deed d joy 1 load 0;");
        for (int i = 1; i <= 14; i++) {
            CHECK.due("days(60)", x.days(60), 60 * i);
        }
        x.days(1);
        CHECK.due("901", x.days(60), -1);
        CHECK.due("nothing was done", x.about(3), 841);
        CHECK.due("900", x.days(59), 900);
        CHECK.due("901 by one", x.days(1), -1);
        CHECK.due("900 by none", x.days(0), 900);
        CHECK.due("done", x.record(0, 0), 900);
        x.undo();
        x.undo();
        CHECK.due("undone", x.about(3), 841);
        CHECK.due("899", x.days(58), 899);
        CHECK.due("901 by two", x.days(2), -1);
        CHECK.due("900 by one", x.days(1), 900);
    }

    /** "GAP, doing nothing, if one can't be, NOBODY is IN, or the DAY is 900." */
    private static void decreesOnTheLastDay() {
        TwoInOne x = Check.of(TWO + "person p of a b turn 0;deed d joy 1 load 0;deed e joy 7 load 3;");
        for (int i = 0; i < 15; i++) {
            x.days(i < 14 ? 60 : 59);
        }
        CHECK.due("the DAY is 899", x.decree(0, 0), 1);
        CHECK.due("the DAY is 900 then", x.about(3), 900);
        CHECK.due("ACTS", x.about(5), 16);
        CHECK.due("the DAY is 900", x.decree(0, 0), GAP);
        CHECK.due("still", x.about(3), 900);
        CHECK.due("no ACT", x.about(5), 16);
        CHECK.due("not done", x.record(0, 0), 1);
    }

    private static void decreesRefused() {
        TwoInOne x = Check.of(EIGHT + "person p of a b turn 0 1;person q of c d turn 0;deed d joy 1 load 0;deed e joy 0 - 7 load 3;");
        for (int wrong : new int[] {-1, 2, MOST, LEAST}) {
            CHECK.due("decree(" + wrong + ", 0)", x.decree(wrong, 0), GAP);
            CHECK.due("decree(0, " + wrong + ")", x.decree(0, wrong), GAP);
        }
        CHECK.due("no DAY went by", x.about(3), 0);
        CHECK.due("no ACT", x.about(5), 0);
        CHECK.due("decree(1, 1)", x.decree(1, 1), -7);
        CHECK.due("its LOAD", x.person(1, 0), 3);
        CHECK.due("the other did what is CHOSEN", x.record(0, 0), 1);
        x.die(1);
        CHECK.due("NOBODY is IN", x.decree(0, 0), GAP);
        CHECK.due("the DAY is as before", x.about(3), 1);
        CHECK.due("q's LOAD is as before", x.person(1, 0), 3);
        CHECK.due("two ACTS", x.about(5), 2);
        CHECK.due("without DEEDS", Check.of(TWO + "person p of a b turn 0;").decree(0, 0), GAP);
    }

    /** "true; false, doing nothing, if one can't be (the same one, too)." */
    private static void placesExchanged() {
        TwoInOne x = Check.of(TWO + "person p of a b turn 0 0 0 0 0 0 0 0 0 0 0 0 0 1;");
        CHECK.due("the first and the last", x.exchange(0, 0, 13), true);
        CHECK.due("the first", x.in(0, 0), 1);
        CHECK.due("the last", x.in(0, 13), 0);
        CHECK.due("the greater first", x.exchange(0, 13, 0), true);
        CHECK.due("of like HALVES, too", x.exchange(0, 0, 1), true);
        CHECK.due("three ACTS", x.about(5), 3);
        for (int wrong : new int[] {-1, 14, MOST, LEAST}) {
            CHECK.due("exchange(0, 0, " + wrong + ")", x.exchange(0, 0, wrong), false);
            CHECK.due("exchange(0, " + wrong + ", 0)", x.exchange(0, wrong, 0), false);
            CHECK.due("exchange(0, " + wrong + ", the same)", x.exchange(0, wrong, wrong), false);
        }
        for (int wrong : new int[] {-1, 1, MOST, LEAST}) {
            CHECK.due("exchange(" + wrong + ", 0, 1)", x.exchange(wrong, 0, 1), false);
        }
        CHECK.due("the same", x.exchange(0, 0, 0), false);
        CHECK.due("the same, the last", x.exchange(0, 13, 13), false);
        CHECK.due("three ACTS still", x.about(5), 3);
        TwoInOne one = Check.of(TWO + "person p of a b turn 0;");
        CHECK.due("one place", one.exchange(0, 0, 0), false);
        CHECK.due("there is no other", one.exchange(0, 0, 1), false);
    }

    /** "1 if it is alive then, else 0; NONE, doing nothing, if there is none such." */
    private static void diedAndAlive() {
        TwoInOne x = Check.of(EIGHT);
        CHECK.due("die(7)", x.die(7), 0);
        CHECK.due("dead", x.half(7, 3), 0);
        CHECK.due("die(7)", x.die(7), 1);
        CHECK.due("alive", x.half(7, 3), 1);
        CHECK.due("die(0)", x.die(0), 0);
        for (int wrong : new int[] {-1, 8, MOST, LEAST}) {
            CHECK.due("die(" + wrong + ")", x.die(wrong), -1);
        }
        CHECK.due("three ACTS", x.about(5), 3);
        CHECK.due("without HALVES", new TwoInOne().die(0), -1);
    }

    /** "the SEED (draw, at first) becomes its 137-fold and 71 more, modulo 1,000"; "(the first comes last)" */
    private static void pranks() {
        int[][] seeds = {{0, 71}, {1, 208}, {6, 893}, {7, 30}, {744, 999}, {817, 0}, {999, 934}, {500, 571}};
        for (int[] row : seeds) {
            TwoInOne x = Check.of(TWO + "person p of a b turn 0 1 1;draw " + row[0] + ";");
            CHECK.due("the SEED at first", x.about(4), row[0]);
            CHECK.due("one PERSON", x.prank(), 0);
            CHECK.due("the SEED", x.about(4), row[1]);
        }
        TwoInOne x = Check.of(TWO + "person p of a b turn 1 0 0 0 0 0 0 0 0 0 0 0 0 0;");
        x.prank();
        for (int day = 0; day < 14; day++) {
            CHECK.due("in(0, " + day + ")", x.in(0, day), day == 13 ? 1 : 0);
        }
        TwoInOne one = Check.of(TWO + "person p of a b turn 1;");
        CHECK.due("one place", one.prank(), 0);
        CHECK.due("in(0, 0)", one.in(0, 0), 1);
        CHECK.due("an ACT", one.about(5), 1);
    }

    /** "of the PERSON of its rest by how many there are" */
    private static void pranksOfSeveral() {
        String[] persons = {"person p of a b turn 0 1;", "person q of c d turn 0 1;", "person r of e f turn 0 1;", "person s of g h turn 0 1;"};
        // 999 by 1 to 4: 0, 1, 0, 3; 934: 0, 0, 1, 2; 0: 0
        int[][] due = {{0, 0, 0}, {1, 0, 0}, {0, 1, 0}, {3, 2, 0}};
        int[] draws = {744, 999, 817};
        StringBuilder text = new StringBuilder(EIGHT);
        for (int n = 0; n < 4; n++) {
            text.append(persons[n]);
            for (int i = 0; i < draws.length; i++) {
                TwoInOne x = Check.of(text + "draw " + draws[i] + ";");
                int person = due[n][i];
                CHECK.due("of " + (n + 1) + " PERSONS, draw " + draws[i], x.prank(), person);
                for (int each = 0; each <= n; each++) {
                    CHECK.due("PERSON " + each, x.in(each, 0), 2 * each + (each == person ? 1 : 0));
                }
            }
        }
    }

    /** "NONE, doing nothing, without PERSONS." */
    private static void pranksWithoutPersons() {
        TwoInOne x = Check.of(EIGHT + "draw 5;");
        CHECK.due("prank()", x.prank(), -1);
        CHECK.due("the SEED", x.about(4), 5);
        CHECK.due("no ACT", x.about(5), 0);
        CHECK.due("new: prank()", new TwoInOne().prank(), -1);
    }

    /** "UNDO: true; false if there is none." "REDO: true; false if there is none." */
    private static void nothingToUndo() {
        TwoInOne x = Check.of(TWO + "person p of a b turn 0;deed d joy 1 load 0;");
        CHECK.due("undo()", x.undo(), false);
        CHECK.due("redo()", x.redo(), false);
        x.days(1);
        CHECK.due("redo() without undo()", x.redo(), false);
        CHECK.due("undo()", x.undo(), true);
        CHECK.due("undo() of none", x.undo(), false);
        CHECK.due("redo()", x.redo(), true);
        CHECK.due("redo() of none", x.redo(), false);
        CHECK.due("the DAY", x.about(3), 1);
        CHECK.due("done once", x.record(0, 0), 1);
    }

    /** "40 at most are kept, the oldest go." */
    private static void fortyActs() {
        TwoInOne x = Check.of(TWO + "person p of a b turn 0;deed d joy 1 load 0;");
        for (int i = 1; i <= 40; i++) {
            x.days(1);
            CHECK.due("kept", x.about(5), i);
        }
        for (int i = 0; i < 40; i++) {
            CHECK.due("undo() of 40", x.undo(), true);
        }
        CHECK.due("all are undone", x.about(3), 0);
        CHECK.due("none is left", x.undo(), false);
        CHECK.due("40 can be redone", x.about(6), 40);
        for (int i = 0; i < 40; i++) {
            x.redo();
        }
        x.days(1);
        CHECK.due("40 of 41 are kept", x.about(5), 40);
        for (int i = 0; i < 40; i++) {
            CHECK.due("undo() of 41", x.undo(), true);
        }
        CHECK.due("the oldest went", x.undo(), false);
        CHECK.due("its DAY stays", x.about(3), 1);
        CHECK.due("what it did stays", x.record(0, 0), 1);
        CHECK.due("redo()", x.redo(), true);
        CHECK.due("the DAY", x.about(3), 2);
        x.die(0);
        CHECK.due("two are kept", x.about(5), 2);
        CHECK.due("none can be redone", x.about(6), 0);
    }

    /** "REDO does that again which was taken back last (till another ACT)" */
    private static void redoneTillAnotherAct() {
        String text = TWO + "person p of a b turn 0 1;deed d joy 1 load 0;";
        for (int act = 0; act < 5; act++) {
            TwoInOne x = Check.of(text);
            x.days(2);
            x.die(1);
            x.undo();
            x.undo();
            CHECK.due("two can be redone", x.about(6), 2);
            act(x, act);
            CHECK.due("none can be redone", x.about(6), 0);
            CHECK.due("redo()", x.redo(), false);
            CHECK.due("one is kept", x.about(5), 1);
        }
        TwoInOne x = Check.of(text);
        x.days(2);
        x.die(1);
        x.undo();
        x.undo();
        refusedActs(x);
        CHECK.due("refused ones are no ACTS", x.about(6), 2);
        x.played(0, 0, 3);
        x.image(0);
        x.next(0);
        x.shown(0, 0);
        x.later(1);
        CHECK.due("neither is what else is asked or told", x.about(6), 2);
        CHECK.due("the DAYS first", x.redo(), true);
        CHECK.due("the DAY", x.about(3), 2);
        CHECK.due("then the other", x.redo(), true);
        CHECK.due("dead", x.half(1, 3), 0);
    }

    private static void act(TwoInOne x, int which) {
        switch (which) {
            case 0: x.days(0); break;
            case 1: x.decree(0, 0); break;
            case 2: x.exchange(0, 0, 1); break;
            case 3: x.die(0); break;
            default: x.prank();
        }
    }

    private static void refusedActs(TwoInOne x) {
        x.days(61);
        x.days(-1);
        x.decree(0, 1);
        x.decree(1, 0);
        x.exchange(0, 1, 1);
        x.exchange(0, 0, 2);
        x.die(2);
        x.die(-1);
    }

    /** "UNDO takes back the latest ACT that was not" */
    private static void eachActIsUndone() {
        for (int act = 0; act < 5; act++) {
            TwoInOne x = Check.of(TWO + "person p of a b turn 0 1;deed d joy 1 load 5;draw 3;");
            x.days(1);
            act(x, act);
            CHECK.due("undo()", x.undo(), true);
            int[] due = {1, 3, 1, 1};
            int[] got = {x.about(3), x.about(4), x.about(5), x.about(6)};
            for (int i = 0; i < due.length; i++) {
                CHECK.due("behind ACT " + act, got[i], due[i]);
            }
            CHECK.due("turn", x.in(0, 0), 0);
            CHECK.due("alive", x.half(0, 3), 1);
            CHECK.due("LOAD", x.person(0, 0), 5);
            CHECK.due("RECORD of a", x.record(0, 0), 1);
            CHECK.due("RECORD of b", x.record(1, 0), 0);
            CHECK.due("JOY of b", x.record(1, -1), 0);
        }
    }

    /** "An empty REGISTER": DAYS are ACTS there, too. */
    private static void undoneOnANewObject() {
        TwoInOne x = new TwoInOne();
        CHECK.due("days(60)", x.days(60), 60);
        CHECK.due("undo()", x.undo(), true);
        CHECK.due("the DAY", x.about(3), 0);
        CHECK.due("undo() of none", x.undo(), false);
        CHECK.due("redo()", x.redo(), true);
        CHECK.due("the DAY", x.about(3), 60);
    }

    /** The last PERSON's last places, the last HALF, the last DEED: done, undone, redone, kept and gone back to. */
    private static void theLastOfEach() {
        TwoInOne x = Check.of(EIGHT + "person p of a b turn 0;person q of c d turn 0;person r of e f turn 0;"
            + "person s of g h turn 0 0 0 0 0 0 0 0 0 0 0 0 0 1;deed i joy 1 load 1;deed j joy 0 load 0;deed k joy 0 load 0;"
            + "deed l joy 0 load 0;deed m joy 0 load 0;deed n joy 0 - 5 load 42;");
        x.image(2);
        CHECK.due("exchange", x.exchange(3, 0, 13), true);
        CHECK.due("decree", x.decree(3, 5), -5);
        x.die(7);
        int[] then = {1, 42, 1, -5, 0, -1, 6};
        int[] before = {0, 0, 0, 0, 1, 6, 7};
        CHECK.due("then", sameAs(x, then), true);
        CHECK.due("undone", x.undo() && x.undo() && x.undo(), true);
        CHECK.due("before", sameAs(x, before), true);
        CHECK.due("redone", x.redo() && x.redo() && x.redo(), true);
        CHECK.due("then, again", sameAs(x, then), true);
        CHECK.due("kept", x.image(0), 1);
        CHECK.due("back(2)", x.back(2), 0);
        CHECK.due("before, again", sameAs(x, before), true);
        CHECK.due("back(0)", x.back(0), 1);
        CHECK.due("then, from the BOX", sameAs(x, then), true);
    }

    /** The DAY, LOAD of the last PERSON, the last HALF's last DEED, its JOY, whether it is alive, who is IN on two DAYS. */
    private static boolean sameAs(TwoInOne x, int[] due) {
        int[] got = {x.about(3), x.person(3, 0), x.record(7, 5), x.record(7, -1), x.half(7, 3), x.in(3, 0), x.in(3, 13)};
        return java.util.Arrays.equals(got, due);
    }

    /** "(no ACTS are kept ... then)": of ACTS beyond the fortieth nothing is left behind register() and back(). */
    private static void undoneBehindManyActs() {
        String text = TWO + "person p of a b turn 0;deed d joy 1 load 0;";
        TwoInOne x = Check.of(text);
        for (int i = 0; i < 53; i++) {
            x.days(1);
        }
        x.image(0);
        x.days(5);
        CHECK.due("back(0)", x.back(0), 53);
        x.days(2);
        CHECK.due("undo()", x.undo(), true);
        CHECK.due("the DAY", x.about(3), 53);
        CHECK.due("done", x.record(0, 0), 53);
        CHECK.due("undo() of none", x.undo(), false);
        TwoInOne y = Check.of(text);
        for (int i = 0; i < 53; i++) {
            y.days(1);
        }
        Check.write(y, text);
        y.register();
        y.days(2);
        CHECK.due("undo() behind register()", y.undo(), true);
        CHECK.due("the DAY", y.about(3), 0);
        CHECK.due("done", y.record(0, 0), 0);
        CHECK.due("redo()", y.redo(), true);
        CHECK.due("the DAY", y.about(3), 2);
    }

    /** "if all are GREEDY on these": of like ones the first, and the LOAD goes on. */
    private static void greedyBehind() {
        // with LOAD 0 b has as much by d as by e: by d a has 20 on DAY 2, by e, with LOAD 9, 5
        TwoInOne like = Check.of(TWO + "person p of a b turn 0 1 0;deed d joy 4 + (load = 0) load 0;deed e joy 5 + (day = 0) load 9;"
            + "deed f joy 20*(load=0)*(day=2) load 0;");
        CHECK.due("now", like.chooses(0, 0), 1);
        CHECK.due("b's DAY is not his", like.chooses(0, 1), 1);
        CHECK.due("of like ones b does the first", like.chooses(0, 2), 0);
        // f has 3 with LOAD 1, nothing with 2, and 2 with each that is more
        TwoInOne on = Check.of(TWO + "person p of a b turn 0;deed d joy 0 load 1;deed e joy 0 load 3;"
            + "deed f joy 3*(load=1)+2*(load>2) load load+1;");
        CHECK.due("3 against 2", on.chooses(0, 1), 0);
        CHECK.due("3 and 0 against 2 and 2", on.chooses(0, 2), 1);
    }
}
