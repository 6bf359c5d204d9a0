/** Promises 34 to 43: SIGHTS, ALIBIS, strangers, images, about. */
public final class SightsTest {
    private static final Check CHECK = new Check("SightsTest");
    private static final String THREE = "half a skill 1;half b skill 1;half c skill 1;half d skill 1;"
        + "person p of a b c turn 0 1 2 1;";

    public static void main(String[] args) {
        sights();
        thirty();
        times();
        alibis();
        alibisAreOfTheTurnAsTold();
        who();
        knownInTwoTimes();
        stranger();
        strangerWithout();
        images();
        about();
        CHECK.finish();
    }

    private static void sights() {
        TwoInOne x = Check.of(THREE);
        CHECK.due("sight(0, 0)", x.sight(0, 0), 0);
        CHECK.due("sight(99, 2)", x.sight(99, 2), 1);
        CHECK.due("sight(100, 0)", x.sight(100, 0), -1);
        CHECK.due("sight(-1, 0)", x.sight(-1, 0), -1);
        CHECK.due("sight(0, 3), of no PERSON", x.sight(0, 3), -1);
        CHECK.due("sight(0, 4)", x.sight(0, 4), -1);
        CHECK.due("sight(0, -1)", x.sight(0, -1), -1);
        CHECK.due("shown(0, 0)", x.shown(0, 0), 2);
        CHECK.due("shown(99, 9)", x.shown(99, 9), 3);
        CHECK.due("shown(100, 0)", x.shown(100, 0), -1);
        CHECK.due("shown(-1, 0)", x.shown(-1, 0), -1);
        CHECK.due("shown(0, 10)", x.shown(0, 10), -1);
        CHECK.due("shown(0, -1)", x.shown(0, -1), -1);
        CHECK.due("about(8)", x.about(8), 4);
        CHECK.due("untell(4)", x.untell(4), false);
        CHECK.due("untell(-1)", x.untell(-1), false);
        CHECK.due("untell(3)", x.untell(3), true);
        CHECK.due("untell(3)", x.untell(3), false);
        CHECK.due("about(8)", x.about(8), 4);
    }

    private static void thirty() {
        TwoInOne x = Check.of(THREE);
        for (int i = 0; i < 30; i++) {
            CHECK.due("SIGHT " + i, i % 2 == 0 ? x.sight(i, 0) : x.shown(i, 1), i);
        }
        CHECK.due("a 31st", x.sight(0, 0), -1);
        CHECK.due("a 31st", x.shown(0, 0), -1);
        x.untell(5);
        CHECK.due("UNTOLD ones stay", x.sight(0, 0), -1);
        CHECK.due("about(8)", x.about(8), 30);
    }

    private static void times() {
        TwoInOne x = new TwoInOne();
        CHECK.due("later(0)", x.later(0), 0);
        CHECK.due("later(-1)", x.later(-1), -1);
        CHECK.due("later(1001)", x.later(1001), -1);
        CHECK.due("later(5)", x.later(5), 5);
        for (int i = 1; i <= 99; i++) {
            CHECK.due("later(1000)", x.later(1000), 5 + 1000 * i);
        }
        CHECK.due("later(996)", x.later(996), -1);
        CHECK.due("about(9)", x.about(9), 99005);
        CHECK.due("later(995)", x.later(995), 100000);
        CHECK.due("later(1)", x.later(1), -1);
        CHECK.due("later(0)", x.later(0), 100000);
        Check.write(x, THREE);
        x.register();
        CHECK.due("the TIME stays", x.about(9), 100000);
    }

    private static void alibis() {
        TwoInOne x = Check.of(THREE);
        // turn a b c b: 4 places, 1 + 6 ways each
        CHECK.due("without SIGHTS", x.alibis(0, 0), 28);
        CHECK.lying("without SIGHTS", x, 0, -1, -1);
        x.sight(4, 2);
        // c on place 0: gone on by 0: 0 with 2; by 1 (b c b a): 0 with 1; by 2 (c b a b): none, 1-2, 1-3, 2-3;
        // by 3 (b a b c): 0 with 3
        CHECK.due("c on DAY 4", x.alibis(0, 0), 7);
        CHECK.lying("c on DAY 4", x, 0, 0, 2);
        x.sight(9, 0);
        // a on place 1: by 0: c b a b has b: no; by 1: c b ..: no; by 2: c with 1-2: a; by 3: c a b b
        CHECK.due("a on DAY 9", x.alibis(0, 0), 2);
        CHECK.lying("a on DAY 9", x, 2, 1, 2);
        x.sight(8, 1);
        CHECK.due("b and c on one place", x.alibis(0, 0), 0);
        CHECK.lying("b and c on one place", x);
        x.pairing(false);
        CHECK.due("alibis(1, 0)", x.alibis(1, 0), -1);
        CHECK.lying("alibis(1, 0)", x);
        CHECK.due("alibis(-1, 0)", x.alibis(-1, 0), -1);
        TwoInOne one = Check.of("half a skill 1;half b skill 1;person p of a b turn 1;");
        CHECK.due("one place", one.alibis(0, 0), 1);
        one.sight(3, 0);
        CHECK.due("never IN", one.alibis(0, 0), 0);
        TwoInOne like = Check.of("half a skill 1;half b skill 1;half c skill 1;half d skill 1;person p of a b turn 0 0;"
            + "person q of c d turn 0 1;");
        like.sight(0, 3);
        CHECK.due("like places are two", like.alibis(0, 0), 4);
        CHECK.due("SIGHTS of its own HALVES", like.alibis(1, 0), 2);
        CHECK.lying("NONE first, but gone on by less before", like, 0, 0, 1);
    }

    private static void alibisAreOfTheTurnAsTold() {
        TwoInOne x = Check.of("half a skill 1;half b skill 1;half c skill 1;person p of a b c turn 0 1 2;");
        x.exchange(0, 0, 2);
        x.prank();
        x.die(0);
        x.sight(0, 0);
        x.sight(1, 1);
        x.sight(2, 2);
        CHECK.due("as told", x.alibis(0, 0), 1);
        CHECK.lying("as told", x, 0, -1, -1);
        CHECK.due("who(0, 0, 0)", x.who(0, 0, 0), 1);
    }

    private static void who() {
        TwoInOne x = Check.of("half z skill 0;" + THREE.replace("half d skill 1;", "half d skill 1;half e skill 1;"));
        CHECK.due("without SIGHTS", x.who(0, 0, 0), 2 + 4 + 8);
        x.sight(4, 3);
        x.sight(9, 1);
        // c a b b (gone on by 2, 1-2) and c a b b (by 3, 0-3)
        CHECK.due("who(0, 0, 0)", x.who(0, 0, 0), 8);
        CHECK.due("who(0, 1, 0)", x.who(0, 1, 0), 2);
        CHECK.due("who(0, 98, 0)", x.who(0, 98, 0), 4);
        CHECK.due("who(0, 99, 0)", x.who(0, 99, 0), 4);
        CHECK.due("who(0, 100, 0)", x.who(0, 100, 0), -1);
        CHECK.due("who(0, -1, 0)", x.who(0, -1, 0), -1);
        CHECK.due("who(1, 0, 0)", x.who(1, 0, 0), -1);
        CHECK.due("who(-1, 0, 0)", x.who(-1, 0, 0), -1);
        x.alibis(0, 0);
        x.who(0, 0, 0);
        CHECK.lying("who leaves what lies there", x, 2, 1, 2);
        x.sight(0, 2);
        CHECK.due("without ALIBIS", x.who(0, 0, 0), 0);
    }

    private static void knownInTwoTimes() {
        TwoInOne x = Check.of(THREE);
        x.later(3);
        x.sight(4, 2);
        x.shown(0, 4);
        x.later(2);
        x.shown(2, 5);
        x.untell(0);
        x.later(1);
        x.untell(1);
        CHECK.due("k -1", x.alibis(0, -1), 28);
        CHECK.due("k 2", x.alibis(0, 2), 28);
        CHECK.due("k 3", x.alibis(0, 3), 7);
        CHECK.due("k 4", x.alibis(0, 4), 7);
        CHECK.due("k 5", x.alibis(0, 5), 28);
        CHECK.due("who at k 4", x.who(0, 0, 4), 4);
        CHECK.due("stranger at k 2", x.stranger(0, 2), 1);
        CHECK.due("stranger at k 3", x.stranger(0, 3), 1);
        CHECK.due("stranger at k 5", x.stranger(0, 5), 2);
        CHECK.due("stranger at k 5", x.stranger(1, 5), 3);
        CHECK.due("stranger at k 6", x.stranger(0, 6), 1);
        CHECK.due("stranger at any later k", x.stranger(1, Integer.MAX_VALUE), 1);
        CHECK.due("stranger at no k", x.stranger(1, Integer.MIN_VALUE), 1);
        x.shown(7, 7);
        x.untell(3);
        CHECK.due("TOLD and UNTOLD at one TIME", x.stranger(0, 6), 1);
    }

    private static void stranger() {
        TwoInOne x = new TwoInOne();
        CHECK.due("none seen: HALVES", x.stranger(0, 0), 1);
        CHECK.due("none seen: DAYS", x.stranger(1, 0), 1);
        x.shown(0, 4);
        x.shown(6, 4);
        CHECK.due("one skill: HALVES", x.stranger(0, 0), 1);
        CHECK.due("one skill: DAYS", x.stranger(1, 0), 1);
        x.shown(1, 2);
        CHECK.due("HALVES", x.stranger(0, 0), 2);
        CHECK.due("DAYS", x.stranger(1, 0), 2);
        x.shown(4, 9);
        // 0 and 6: 4; 1: 2; 4: 9. 2: 0 and 4; 3: 1 and 4; 4: 0 and 4; 5: 1 and 6; 6 is fine
        CHECK.due("HALVES", x.stranger(0, 0), 3);
        CHECK.due("DAYS", x.stranger(1, 0), 6);
        CHECK.due("stranger(2, 0)", x.stranger(2, 0), -1);
        CHECK.due("stranger(-1, 0)", x.stranger(-1, 0), -1);
    }

    private static void strangerWithout() {
        TwoInOne x = new TwoInOne();
        x.shown(3, 1);
        x.shown(3, 2);
        CHECK.due("two skills on a DAY", x.stranger(0, 0), -1);
        CHECK.due("two skills on a DAY", x.stranger(1, 0), -1);
        TwoInOne nine = new TwoInOne();
        for (int day = 0; day < 9; day++) {
            nine.shown(day, day);
        }
        CHECK.due("nine HALVES", nine.stranger(0, 0), 9);
        CHECK.due("nine DAYS", nine.stranger(1, 0), 9);
        nine.shown(9, 9);
        CHECK.due("ten", nine.stranger(0, 0), -1);
        CHECK.due("ten", nine.stranger(1, 0), -1);
    }

    private static void images() {
        TwoInOne x = Check.of("half a skill 1;half b skill 2;person p of a b turn 0 1 1;deed d joy 3 load load + 4;draw 3;");
        CHECK.due("back(0)", x.back(0), -1);
        x.days(3);
        x.die(1);
        x.exchange(0, 0, 1);
        x.prank();
        CHECK.due("image(0)", x.image(0), 3);
        CHECK.due("image(3)", x.image(3), -1);
        CHECK.due("image(-1)", x.image(-1), -1);
        CHECK.due("no ACT", x.about(5), 4);
        int seed = x.about(4);
        int[] in = {x.in(0, 0), x.in(0, 1), x.in(0, 2)};
        x.die(1);
        x.days(7);
        x.prank();
        x.undo();
        CHECK.due("image(2)", x.image(2), 10);
        CHECK.due("back(1)", x.back(1), -1);
        CHECK.due("back(3)", x.back(3), -1);
        CHECK.due("back(-1)", x.back(-1), -1);
        CHECK.due("doing nothing", x.about(5), 6);
        CHECK.due("back(0)", x.back(0), 3);
        CHECK.due("DAY", x.about(3), 3);
        CHECK.due("SEED", x.about(4), seed);
        CHECK.due("LOAD", x.person(0, 0), 12);
        CHECK.due("dead", x.half(1, 3), 0);
        CHECK.due("JOY", x.record(1, -1), 6);
        CHECK.due("done", x.record(0, 0), 1);
        for (int day = 0; day < 3; day++) {
            CHECK.due("in(0, " + day + ")", x.in(0, day), in[day]);
        }
        CHECK.due("undone", x.about(5), 0);
        CHECK.due("redone", x.about(6), 0);
        CHECK.due("undo()", x.undo(), false);
        CHECK.due("redo()", x.redo(), false);
        CHECK.due("back(2)", x.back(2), 10);
        CHECK.due("back(0), again", x.back(0), 3);
        x.die(1);
        CHECK.due("undo()", x.undo(), true);
        CHECK.due("dead", x.half(1, 3), 0);
    }

    private static void about() {
        TwoInOne x = Check.of("half a skill 1;half b skill 2;half c skill 2;person p of a b turn 0 1 1;"
            + "deed d joy 3 load load + 4;deed e joy 3 load 0;draw 3;like a to c 1;like c to b 1;");
        x.days(4);
        x.days(1);
        x.days(2);
        x.undo();
        x.next(1);
        x.next(1);
        x.next(0);
        x.next(0);
        x.shown(1, 1);
        x.shown(2, 1);
        x.later(11);
        x.feed(0, 0, 0, 0, 0);
        x.together(0, 9);
        int[] due = {3, 1, 2, 5, 3, 2, 1, 4, 2, 11, 20, 5, 9, 2};
        for (int what = 0; what < due.length; what++) {
            CHECK.due("about(" + what + ")", x.about(what), due[what]);
        }
        CHECK.due("about(14)", x.about(14), -1);
        CHECK.due("about(-1)", x.about(-1), -1);
    }
}
