/** Promises 6 to 20: HALVES, PERSONS, what is CHOSEN, ACTS, RECORDS, UNDO and REDO. */
public final class DaysTest {
    private static final Check CHECK = new Check("DaysTest");
    private static final int GAP = TwoInOne.GAP;

    public static void main(String[] args) {
        halvesAndLikes();
        persons();
        formulas();
        wrapping();
        loadIsBounded();
        again();
        chooses();
        wrongToChooseOrEnjoy();
        days();
        daysOfSeveralPersons();
        decree();
        guilt();
        exchange();
        die();
        prank();
        undoAndRedo();
        fortyActs();
        CHECK.finish();
    }

    private static void halvesAndLikes() {
        TwoInOne x = Check.of("half a skill 3 cares 2;half b skill 9 cares 9;half c skill 0;"
            + "person p of b a turn 1;favour b 2;like a to c 4;");
        int[][] due = {{0, 3, 2, 1, 0}, {0, 9, 9, 1, 2}, {-1, 0, 0, 1, 0}};
        for (int half = 0; half < 3; half++) {
            for (int what = 0; what < 5; what++) {
                CHECK.due("half(" + half + ", " + what + ")", x.half(half, what), due[half][what]);
            }
        }
        CHECK.due("half(3, 0)", x.half(3, 0), -1);
        CHECK.due("half(-1, 0)", x.half(-1, 0), -1);
        CHECK.due("half(0, 5)", x.half(0, 5), -1);
        CHECK.due("half(0, -1)", x.half(0, -1), -1);
        CHECK.due("likes(0, 2)", x.likes(0, 2), 4);
        CHECK.due("likes(2, 0)", x.likes(2, 0), 0);
        CHECK.due("likes(1, 1)", x.likes(1, 1), -1);
        CHECK.due("likes(0, 3)", x.likes(0, 3), -1);
        CHECK.due("likes(-1, 0)", x.likes(-1, 0), -1);
        CHECK.due("in(0, 0): place 1 is a", x.in(0, 0), 0);
    }

    private static void persons() {
        TwoInOne x = Check.of("half a skill 1;half b skill 1;half c skill 1;half d skill 1;half e skill 1;"
            + "person p of a b turn 0 1 1;person q of c d e turn 2 1 0 0;");
        CHECK.due("person(0, 0)", x.person(0, 0), 0);
        CHECK.due("person(0, 1)", x.person(0, 1), 3);
        CHECK.due("person(0, 2)", x.person(0, 2), 2);
        CHECK.due("person(1, 1)", x.person(1, 1), 4);
        CHECK.due("person(1, 2)", x.person(1, 2), 3);
        CHECK.due("person(2, 0)", x.person(2, 0), -1);
        CHECK.due("person(-1, 0)", x.person(-1, 0), -1);
        CHECK.due("person(0, 3)", x.person(0, 3), -1);
        CHECK.due("person(0, -1)", x.person(0, -1), -1);
        int[] first = {0, 1, 1, 0, 1, 1};
        int[] second = {4, 3, 2, 2, 4, 3};
        for (int day = 0; day < 6; day++) {
            CHECK.due("in(0, " + day + ")", x.in(0, day), first[day]);
            CHECK.due("in(1, " + day + ")", x.in(1, day), second[day]);
        }
        CHECK.due("in(1, 999)", x.in(1, 999), 2);
        CHECK.due("in(1, 1000)", x.in(1, 1000), -2);
        CHECK.due("in(1, -1)", x.in(1, -1), -2);
        CHECK.due("in(2, 0)", x.in(2, 0), -2);
        CHECK.due("in(-1, 0)", x.in(-1, 0), -2);
    }

    /** JOY of a formula on DAY 5 of one whose skill is 7, who was not IN the DAY before, with LOAD 3. */
    private static int joyOf(String formula) {
        TwoInOne x = Check.of("half a skill 2;half b skill 7;person p of a b turn 0 1;deed d joy " + formula
            + " load 3;");
        x.days(5);
        return x.joy(0, 0);
    }

    private static void formulas() {
        Object[][] rows = {
            {"7", 7}, {"load", 3}, {"day", 5}, {"skill", 7}, {"again", 0}, {"2 + 3 * 4", 14}, {"(2 + 3) * 4", 20},
            {"9 - 3 - 2", 4}, {"9 / 2 / 2", 2}, {"(0 - 9) / 2", -4}, {"(0 - 9) % 2", -1}, {"9 % (0 - 4)", 1},
            {"5 / 0", 0}, {"5 % 0", 0}, {"5 / (day - 5) + 1", 1}, {"2 < 3", 1}, {"3 < 3", 0}, {"4 > 3", 1}, {"3 > 3", 0},
            {"3 = 3", 1}, {"3 = 4", 0}, {"1 + 1 = 2", 1}, {"not 0", 1}, {"not 5", 0}, {"not 1 = 2", 1},
            {"not 0 + 1", 0}, {"not not 5", 1}, {"5 and 6", 1}, {"5 and 0", 0}, {"0 or 6", 1}, {"0 or 0", 0},
            {"1 or 1 and 0", 1}, {"(1 or 1) and 0", 0}, {"not 0 and 0", 0}, {"not (0 and 0)", 1}, {"0 - 1 and 1", 1},
            {"1 and 2 and 3", 1}, {"0 or 0 or 4", 1}, {"skill - load * 2 < day and not again", 1}, {"20 - 8 % 5 * 2", 14},
            {"1 < 2 and 2 < 3", 1}, {"(1 < 2) < 2", 1}, {"(1 and 5) + (2 or 0)", 2}, {"7 / 2 * 2", 6},
        };
        for (Object[] row : rows) {
            CHECK.due("joy of " + row[0], joyOf((String) row[0]), (Integer) row[1]);
        }
    }

    private static void wrapping() {
        CHECK.due("9999 * 9999 * 9999", joyOf("9999 * 9999 * 9999"), 9999 * 9999 * 9999);
        String least = "(0 - 8192 * 8192 * 32)";
        CHECK.due("the least int", joyOf(least), Integer.MIN_VALUE);
        CHECK.due("one less", joyOf(least + " - 1"), Integer.MAX_VALUE);
        CHECK.due("the least by -1", joyOf(least + " / (0 - 1)"), Integer.MIN_VALUE);
        CHECK.due("its rest", joyOf(least + " % (0 - 1)"), 0);
        TwoInOne x = Check.of("half a skill 2;half b skill 7;person p of a b turn 0;deed d joy " + least + " load 3;");
        x.days(3);
        CHECK.due("JOY in all wraps", x.record(0, -1), Integer.MIN_VALUE);
    }

    private static void loadIsBounded() {
        TwoInOne x = Check.of("half a skill 2;half b skill 7;person p of a b turn 0;"
            + "deed d joy load load load * 40 + 3;deed e joy 0 load 0 - 5;deed f joy 0 load 99;");
        CHECK.due("d", x.decree(0, 0), 0);
        CHECK.due("LOAD 3", x.person(0, 0), 3);
        CHECK.due("d", x.decree(0, 0), 3);
        CHECK.due("99 at most", x.person(0, 0), 99);
        CHECK.due("d", x.decree(0, 0), 99);
        CHECK.due("e", x.decree(0, 1), 0);
        CHECK.due("0 at least", x.person(0, 0), 0);
        x.decree(0, 2);
        CHECK.due("99 itself", x.person(0, 0), 99);
    }

    private static void again() {
        TwoInOne x = Check.of("half a skill 2;half b skill 7;person p of a b turn 0 0 1;deed d joy again load 0;");
        int[] due = {0, 1, 0, 0, 1, 0, 0, 1};
        for (int day = 0; day < due.length; day++) {
            CHECK.due("again on DAY " + day, x.joy(0, 0), due[day]);
            x.days(1);
        }
        TwoInOne alone = Check.of("half a skill 2;half b skill 7;person p of a b turn 0;deed d joy again load 0;");
        CHECK.due("again on DAY 0", alone.joy(0, 0), 0);
        alone.days(1);
        CHECK.due("again on DAY 1", alone.joy(0, 0), 1);
    }

    private static void chooses() {
        // drink: 4 now, LOAD 3 more; work: skill less LOAD, LOAD one less
        TwoInOne x = Check.of("half a skill 3 cares 2;half b skill 1;person p of a b turn 0 1;"
            + "deed work joy skill - load load load - 1;deed drink joy 4 - load / 2 load load + 3;");
        CHECK.due("chooses(0, 0)", x.chooses(0, 0), 1);
        CHECK.due("chooses(0, 1)", x.chooses(0, 1), 1);
        // work: 3, then b drinks (4 > 1), LOAD 3, then a has 3: 6; drink: 4, b drinks, LOAD 6, then a has 1: 5
        CHECK.due("chooses(0, 2)", x.chooses(0, 2), 0);
        CHECK.due("chooses(0, -1)", x.chooses(0, -1), 0);
        TwoInOne like = Check.of("half a skill 3;half b skill 1;person p of a b turn 0 1;"
            + "deed d joy 2 load 0;deed e joy 5 load 0;deed f joy 5 load 0;");
        CHECK.due("of like ones the first", like.chooses(0, 0), 1);
        CHECK.due("of like ones the first, with cares", like.chooses(0, 9), 1);
        // who cares sums only his own DAYS: b's loss is nothing to a
        TwoInOne own = Check.of("half a skill 3;half b skill 1;person p of a b turn 0 1 1 1;"
            + "deed d joy 10 - load load 0;deed e joy 11 - load load 99;");
        CHECK.due("b's DAYS do not count", own.chooses(0, 3), 1);
        CHECK.due("his own do not count yet", own.chooses(0, 4), 1);
    }

    private static void wrongToChooseOrEnjoy() {
        TwoInOne x = Check.of("half a skill 3;half b skill 1;person p of a b turn 0 1;deed d joy 2 load 0;");
        CHECK.due("chooses(1, 0)", x.chooses(1, 0), -2);
        CHECK.due("chooses(-1, 0)", x.chooses(-1, 0), -2);
        CHECK.due("chooses(0, 10)", x.chooses(0, 10), -2);
        CHECK.due("chooses(0, -2)", x.chooses(0, -2), -2);
        CHECK.due("joy(0, 0)", x.joy(0, 0), 2);
        CHECK.due("joy(0, 1)", x.joy(0, 1), GAP);
        CHECK.due("joy(0, -1)", x.joy(0, -1), GAP);
        CHECK.due("joy(1, 0)", x.joy(1, 0), GAP);
        CHECK.due("joy(-1, 0)", x.joy(-1, 0), GAP);
        x.die(0);
        CHECK.due("NOBODY chooses", x.chooses(0, 0), -1);
        CHECK.due("NOBODY chooses with wrong cares", x.chooses(0, 10), -2);
        CHECK.due("NOBODY has joy", x.joy(0, 0), GAP);
        TwoInOne idle = Check.of("half a skill 3;half b skill 1;person p of a b turn 0 1;");
        CHECK.due("without DEEDS", idle.chooses(0, 0), -1);
        CHECK.due("joy without DEEDS", idle.joy(0, 0), GAP);
    }

    private static void days() {
        TwoInOne x = Check.of("half a skill 3;half b skill 1;half c skill 1;person p of a b turn 0 1 1;"
            + "deed d joy load > 2 load 0;deed e joy skill - load load load + 1;");
        CHECK.due("days(-1)", x.days(-1), -1);
        CHECK.due("days(61)", x.days(61), -1);
        CHECK.due("nothing was done", x.about(5), 0);
        CHECK.due("days(0)", x.days(0), 0);
        CHECK.due("days(0) is an ACT", x.about(5), 1);
        // DAY 0: a: e 3, LOAD 1; DAY 1: b: d 0, e 0: the first, LOAD 0; DAY 2: b: e 1, LOAD 1; DAY 3: a: e 2, LOAD 2
        CHECK.due("days(4)", x.days(4), 4);
        CHECK.due("record(0, 1)", x.record(0, 1), 2);
        CHECK.due("record(0, 0)", x.record(0, 0), 0);
        CHECK.due("record(0, -1)", x.record(0, -1), 5);
        CHECK.due("record(1, 0)", x.record(1, 0), 1);
        CHECK.due("record(1, 1)", x.record(1, 1), 1);
        CHECK.due("record(1, -1)", x.record(1, -1), 1);
        CHECK.due("record(2, -1)", x.record(2, -1), 0);
        CHECK.due("LOAD", x.person(0, 0), 2);
        CHECK.due("record(3, 0)", x.record(3, 0), GAP);
        CHECK.due("record(-1, 0)", x.record(-1, 0), GAP);
        CHECK.due("record(0, 2)", x.record(0, 2), GAP);
        CHECK.due("record(0, -2)", x.record(0, -2), GAP);
        for (int i = 0; i < 14; i++) {
            CHECK.due("days(60)", x.days(60), 64 + 60 * i);
        }
        CHECK.due("days(60)", x.days(57), -1);
        CHECK.due("days(56)", x.days(56), 900);
        CHECK.due("days(1) at the end", x.days(1), -1);
        CHECK.due("days(0) at the end", x.days(0), 900);
        CHECK.due("decree at the end", x.decree(0, 0), GAP);
        CHECK.due("record of all DAYS", x.record(0, 0) + x.record(0, 1) + x.record(1, 0) + x.record(1, 1), 900);
    }

    private static void daysOfSeveralPersons() {
        TwoInOne x = Check.of("half a skill 1;half b skill 2;half c skill 3;half d skill 4 cares 1;"
            + "person p of a b turn 0 1;person q of c d turn 1;deed d joy skill load load + skill;deed e joy day * 3 load 0;");
        CHECK.due("days(3)", x.days(3), 3);
        // p: a d 1 LOAD 1; b e 3 (2 < 3) LOAD 0; a e 6 LOAD 0. q: d: DAY 0 d 4; DAY 1 d 4 (3); DAY 2 e 6
        CHECK.due("p's LOAD", x.person(0, 0), 0);
        CHECK.due("q's LOAD", x.person(1, 0), 0);
        CHECK.due("a", x.record(0, -1), 7);
        CHECK.due("b", x.record(1, -1), 3);
        CHECK.due("c", x.record(2, -1), 0);
        CHECK.due("d", x.record(3, -1), 14);
        CHECK.due("d did d", x.record(3, 0), 2);
        x.undo();
        x.days(2);
        CHECK.due("q's LOAD on DAY 2", x.person(1, 0), 8);
    }

    private static void decree() {
        TwoInOne x = Check.of("half a skill 1;half b skill 2;half c skill 3;half d skill 4;person p of a b turn 0 1;"
            + "person q of c d turn 0 1;deed good joy 9 load 1;deed bad joy 0 - skill load 5;");
        CHECK.due("decree(2, 0)", x.decree(2, 0), GAP);
        CHECK.due("decree(-1, 0)", x.decree(-1, 0), GAP);
        CHECK.due("decree(0, 2)", x.decree(0, 2), GAP);
        CHECK.due("decree(0, -1)", x.decree(0, -1), GAP);
        CHECK.due("nothing was done", x.about(5), 0);
        CHECK.due("decree(1, 1)", x.decree(1, 1), -3);
        CHECK.due("the coming DAY", x.about(3), 1);
        CHECK.due("p did what is CHOSEN", x.record(0, 0), 1);
        CHECK.due("p's LOAD", x.person(0, 0), 1);
        CHECK.due("q's LOAD", x.person(1, 0), 5);
        CHECK.due("c's JOY", x.record(2, -1), -3);
        CHECK.due("an ACT", x.about(5), 1);
        x.die(3);
        CHECK.due("NOBODY is IN", x.decree(1, 1), GAP);
        CHECK.due("p's decree while q has NOBODY", x.decree(0, 1), -2);
        CHECK.due("q's LOAD stays", x.person(1, 0), 5);
    }

    private static void guilt() {
        TwoInOne x = Check.of("half a skill 1;half b skill 2;half c skill 2;person p of a b turn 0 1 1;"
            + "deed d joy 1 load 0;deed e joy 0 load 0;");
        CHECK.due("not done, upper", x.guilt(0, 0, 0), 0);
        CHECK.due("not done, lower", x.guilt(0, 0, 1), 1);
        x.days(6);
        CHECK.due("a, upper", x.guilt(0, 0, 0), 1);
        CHECK.due("a, lower", x.guilt(0, 0, 1), 3);
        CHECK.due("b, upper", x.guilt(0, 1, 0), 2);
        CHECK.due("b, lower", x.guilt(0, 1, 1), 3);
        CHECK.due("c, upper", x.guilt(0, 2, 0), 0);
        CHECK.due("c, lower", x.guilt(0, 2, 1), 1);
        CHECK.due("guilt(2, 0, 0)", x.guilt(2, 0, 0), -1);
        CHECK.due("guilt(-1, 0, 0)", x.guilt(-1, 0, 0), -1);
        CHECK.due("guilt(0, 3, 0)", x.guilt(0, 3, 0), -1);
        CHECK.due("guilt(0, -1, 0)", x.guilt(0, -1, 0), -1);
        CHECK.due("guilt(0, 0, 2)", x.guilt(0, 0, 2), -1);
        CHECK.due("guilt(0, 0, -1)", x.guilt(0, 0, -1), -1);
    }

    private static void exchange() {
        TwoInOne x = Check.of("half a skill 1;half b skill 2;half c skill 2;person p of a b c turn 0 1 2 2;");
        CHECK.due("exchange(0, 0, 2)", x.exchange(0, 0, 2), true);
        int[] due = {2, 1, 0, 2};
        for (int day = 0; day < 4; day++) {
            CHECK.due("in(0, " + day + ")", x.in(0, day), due[day]);
        }
        CHECK.due("exchange(0, 2, 0)", x.exchange(0, 2, 0), true);
        CHECK.due("in(0, 0)", x.in(0, 0), 0);
        CHECK.due("two ACTS", x.about(5), 2);
        CHECK.due("exchange(0, 1, 1)", x.exchange(0, 1, 1), false);
        CHECK.due("exchange(0, 0, 4)", x.exchange(0, 0, 4), false);
        CHECK.due("exchange(0, -1, 0)", x.exchange(0, -1, 0), false);
        CHECK.due("exchange(1, 0, 1)", x.exchange(1, 0, 1), false);
        CHECK.due("exchange(-1, 0, 1)", x.exchange(-1, 0, 1), false);
        CHECK.due("two ACTS still", x.about(5), 2);
    }

    private static void die() {
        TwoInOne x = Check.of("half a skill 1;half b skill 2;half c skill 2;person p of a b turn 0 1;deed d joy again load 7;");
        CHECK.due("die(1)", x.die(1), 0);
        CHECK.due("half(1, 3)", x.half(1, 3), 0);
        CHECK.due("in(0, 1)", x.in(0, 1), -1);
        CHECK.due("in(0, 0)", x.in(0, 0), 0);
        x.days(2);
        CHECK.due("LOAD is left", x.person(0, 0), 7);
        CHECK.due("b did nothing", x.record(1, 0), 0);
        CHECK.due("die(1)", x.die(1), 1);
        CHECK.due("in(0, 1)", x.in(0, 1), 1);
        CHECK.due("die(2), of no PERSON", x.die(2), 0);
        CHECK.due("die(3)", x.die(3), -1);
        CHECK.due("die(-1)", x.die(-1), -1);
        CHECK.due("ACTS", x.about(5), 4);
    }

    private static void prank() {
        TwoInOne x = Check.of("half a skill 1;half b skill 2;half c skill 3;half d skill 4;person p of a b turn 0 1 1;"
            + "person q of c d turn 0 1;draw 7;");
        // 7 * 137 + 71 = 1030: 30, PERSON 0; 30 * 137 + 71 = 4181: 181, PERSON 1
        CHECK.due("prank()", x.prank(), 0);
        CHECK.due("SEED", x.about(4), 30);
        int[] due = {1, 1, 0};
        for (int day = 0; day < 3; day++) {
            CHECK.due("in(0, " + day + ")", x.in(0, day), due[day]);
        }
        CHECK.due("prank()", x.prank(), 1);
        CHECK.due("SEED", x.about(4), 181);
        CHECK.due("in(1, 0)", x.in(1, 0), 3);
        CHECK.due("undo()", x.undo(), true);
        CHECK.due("SEED", x.about(4), 30);
        CHECK.due("in(1, 0)", x.in(1, 0), 2);
        TwoInOne alone = Check.of("half a skill 1;draw 7;");
        CHECK.due("without PERSONS", alone.prank(), -1);
        CHECK.due("SEED stays", alone.about(4), 7);
        CHECK.due("no ACT", alone.about(5), 0);
    }

    private static void undoAndRedo() {
        TwoInOne x = Check.of("half a skill 1;half b skill 2;person p of a b turn 0 1;deed d joy 3 load load + 4;");
        x.days(2);
        x.exchange(0, 0, 1);
        x.die(1);
        x.prank();
        x.decree(0, 0);
        CHECK.due("ACTS", x.about(5), 5);
        CHECK.due("redo()", x.redo(), false);
        CHECK.due("undo()", x.undo(), true);
        CHECK.due("DAY", x.about(3), 2);
        CHECK.due("LOAD", x.person(0, 0), 8);
        CHECK.due("undo()", x.undo(), true);
        CHECK.due("SEED", x.about(4), 0);
        CHECK.due("in(0, 1)", x.in(0, 1), 0);
        CHECK.due("undo()", x.undo(), true);
        CHECK.due("alive", x.half(1, 3), 1);
        CHECK.due("can be undone", x.about(5), 2);
        CHECK.due("can be redone", x.about(6), 3);
        CHECK.due("undo()", x.undo(), true);
        CHECK.due("in(0, 0)", x.in(0, 0), 0);
        CHECK.due("undo()", x.undo(), true);
        CHECK.due("DAY", x.about(3), 0);
        CHECK.due("JOY", x.record(0, -1), 0);
        CHECK.due("undo()", x.undo(), false);
        CHECK.due("redo()", x.redo(), true);
        CHECK.due("JOY", x.record(0, -1), 3);
        CHECK.due("LOAD", x.person(0, 0), 8);
        CHECK.due("wrong calls are no ACTS", x.exchange(0, 0, 0), false);
        CHECK.due("can be redone", x.about(6), 4);
        CHECK.due("redo()", x.redo(), true);
        CHECK.due("in(0, 0)", x.in(0, 0), 1);
        x.die(1);
        CHECK.due("another ACT", x.redo(), false);
        CHECK.due("can be redone", x.about(6), 0);
        CHECK.due("can be undone", x.about(5), 3);
    }

    private static void fortyActs() {
        TwoInOne x = Check.of("half a skill 1;half b skill 2;person p of a b turn 0 1;deed d joy 3 load load + 4;");
        for (int i = 1; i <= 45; i++) {
            x.days(1);
            CHECK.due("ACTS", x.about(5), Math.min(40, i));
        }
        for (int i = 0; i < 40; i++) {
            CHECK.due("undo()", x.undo(), true);
            CHECK.due("DAY", x.about(3), 44 - i);
        }
        CHECK.due("the oldest are gone", x.undo(), false);
        CHECK.due("DAY", x.about(3), 5);
        CHECK.due("can be redone", x.about(6), 40);
        for (int i = 0; i < 40; i++) {
            CHECK.due("redo()", x.redo(), true);
            CHECK.due("DAY", x.about(3), 6 + i);
        }
        CHECK.due("redo()", x.redo(), false);
        x.undo();
        x.prank();
        CHECK.due("ACTS", x.about(5), 40);
        CHECK.due("redone", x.about(6), 0);
    }
}
