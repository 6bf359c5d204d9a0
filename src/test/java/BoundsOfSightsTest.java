/** The bounds of SIGHTS, TIMES, ALIBIS, strangers and BOXES, sentence by sentence of ==== 4., and of promises 34 to 43. */
public final class BoundsOfSightsTest {
    private static final Check CHECK = new Check("BoundsOfSightsTest");
    private static final int MOST = Integer.MAX_VALUE;
    private static final int LEAST = Integer.MIN_VALUE;
    private static final String EIGHT = "half a skill 0;half b skill 1;half c skill 2;half d skill 3;half e skill 4;half f skill 5;"
        + "half g skill 6;half h skill 7;";
    private static final String ABC = EIGHT + "person p of a b c turn 0 1 2;person q of h g turn 0 1;";

    public static void main(String[] args) {
        sightsOfHalves();
        sightsOfStrangers();
        thirtySights();
        untoldOnce();
        theTime();
        toldAtAndUntoldAt();
        waysOfSoManyPlaces();
        goneOnByLessThanItHas();
        exchangedThen();
        firstByThese();
        noAlibi();
        alibisAsked();
        sightsOfItsHalves();
        asItIsTold();
        whoOnADay();
        whoAsBits();
        strangerOfNoSkill();
        strangerOfNineDays();
        strangerOfManySkills();
        strangerAsked();
        boxes();
        allThatIsKept();
        backWithoutActs();
        aboutAsked();
        callsOfOneObject();
        CHECK.finish();
    }

    /** "that on a DAY (0 .. 99) a HALF was IN"; "NONE, doing nothing, if one can't be (one of no PERSON, too)" */
    private static void sightsOfHalves() {
        TwoInOne x = Check.of(ABC);
        for (int day : new int[] {-1, 100, MOST, LEAST}) {
            CHECK.due("sight(" + day + ", 0)", x.sight(day, 0), -1);
        }
        for (int half : new int[] {-1, 8, MOST, LEAST}) {
            CHECK.due("sight(0, " + half + ")", x.sight(0, half), -1);
        }
        for (int half = 3; half <= 5; half++) {
            CHECK.due("of no PERSON: sight(0, " + half + ")", x.sight(0, half), -1);
        }
        CHECK.due("none is told", x.about(8), 0);
        CHECK.due("sight(0, 0)", x.sight(0, 0), 0);
        CHECK.due("sight(99, 0)", x.sight(99, 0), 1);
        CHECK.due("the last HALF", x.sight(0, 7), 2);
        CHECK.due("the same once more", x.sight(0, 7), 3);
        x.die(1);
        CHECK.due("of who is dead", x.sight(1, 1), 4);
        CHECK.due("without HALVES", new TwoInOne().sight(0, 0), -1);
    }

    /** "that on a DAY a stranger showed a skill (0 .. 9)"; "NONE, doing nothing, likewise." */
    private static void sightsOfStrangers() {
        TwoInOne x = new TwoInOne();
        for (int wrong : new int[] {-1, 100, MOST, LEAST}) {
            CHECK.due("shown(" + wrong + ", 0)", x.shown(wrong, 0), -1);
        }
        for (int wrong : new int[] {-1, 10, MOST, LEAST}) {
            CHECK.due("shown(0, " + wrong + ")", x.shown(0, wrong), -1);
        }
        CHECK.due("none is told", x.about(8), 0);
        CHECK.due("shown(0, 0)", x.shown(0, 0), 0);
        CHECK.due("shown(99, 9)", x.shown(99, 9), 1);
        CHECK.due("two are told", x.about(8), 2);
    }

    /** "SIGHTS, 30 at most"; "or there are 30." */
    private static void thirtySights() {
        for (int sort = 0; sort < 3; sort++) {
            TwoInOne x = Check.of(ABC);
            for (int i = 0; i < 30; i++) {
                boolean ofHalf = sort == 0 || sort == 2 && i % 2 == 0;
                CHECK.due("its number", ofHalf ? x.sight(i, 0) : x.shown(i, 0), i);
            }
            CHECK.due("a 31st of a HALF", x.sight(0, 0), -1);
            CHECK.due("a 31st of a stranger", x.shown(0, 0), -1);
            CHECK.due("30 are told", x.about(8), 30);
            CHECK.due("the last is UNTOLD", x.untell(29), true);
            CHECK.due("30 are told still", x.about(8), 30);
            CHECK.due("there is no room for another", x.shown(0, 0), -1);
            CHECK.due("there is no 31st", x.untell(30), false);
        }
    }

    /** "It is UNTOLD: true; false if it is so already, or there is none such." */
    private static void untoldOnce() {
        TwoInOne x = Check.of(ABC);
        CHECK.due("there is none", x.untell(0), false);
        x.shown(3, 3);
        x.sight(3, 0);
        for (int wrong : new int[] {-1, 2, 29, 30, MOST, LEAST}) {
            CHECK.due("untell(" + wrong + ")", x.untell(wrong), false);
        }
        CHECK.due("untell(0)", x.untell(0), true);
        CHECK.due("untell(0) again", x.untell(0), false);
        x.later(1);
        CHECK.due("untell(0) later", x.untell(0), false);
        CHECK.due("untell(1) later", x.untell(1), true);
        CHECK.due("it was told till then", x.alibis(0, 0), 4);
        CHECK.due("and is not then", x.alibis(0, 1), 12);
        CHECK.due("untell(1) again", x.untell(1), false);
    }

    /** "So much later (0 .. 1000): the TIME; NONE, doing nothing, for another number, or if it would be above 100,000." */
    private static void theTime() {
        TwoInOne x = new TwoInOne();
        CHECK.due("0 at first", x.about(9), 0);
        for (int by : new int[] {-1, 1001, 100000, MOST, LEAST}) {
            CHECK.due("later(" + by + ")", x.later(by), -1);
            CHECK.due("no TIME went on", x.about(9), 0);
        }
        CHECK.due("later(0)", x.later(0), 0);
        CHECK.due("later(1)", x.later(1), 1);
        CHECK.due("later(1000)", x.later(1000), 1001);
        for (int i = 2; i <= 99; i++) {
            CHECK.due("later(1000)", x.later(1000), 1 + 1000 * i);
        }
        CHECK.due("100,001", x.later(1000), -1);
        CHECK.due("nothing is done", x.about(9), 99001);
        CHECK.due("100,000", x.later(999), 100000);
        CHECK.due("100,001 by one", x.later(1), -1);
        CHECK.due("100,000 by none", x.later(0), 100000);
        x.shown(0, 1);
        x.shown(1, 2);
        CHECK.due("known at the last TIME", x.stranger(0, 100000), 2);
        CHECK.due("known before", x.stranger(0, 99999), 1);
        CHECK.due("known ever after", x.stranger(0, MOST), 2);
        x.untell(1);
        CHECK.due("UNTOLD at the same TIME", x.stranger(0, 100000), 1);
    }

    /** "As known at k those count that were TOLD at k or before, not UNTOLD at k or before."; "UNTOLD at a later one or the same" */
    private static void toldAtAndUntoldAt() {
        TwoInOne x = Check.of(ABC);
        x.later(5);
        x.sight(0, 0);
        x.shown(0, 1);
        x.shown(1, 2);
        x.later(3);
        x.untell(0);
        x.untell(2);
        int[][] due = {{LEAST, 0}, {-1, 0}, {0, 0}, {4, 0}, {5, 1}, {6, 1}, {7, 1}, {8, 0}, {9, 0}, {MOST, 0}};
        for (int[] row : due) {
            boolean counts = row[1] == 1;
            CHECK.due("alibis at " + row[0], x.alibis(0, row[0]), counts ? 4 : 12);
            CHECK.due("who at " + row[0], x.who(0, 0, row[0]), counts ? 1 : 7);
            CHECK.due("stranger at " + row[0], x.stranger(0, row[0]), counts ? 2 : 1);
            CHECK.due("its DAYS at " + row[0], x.stranger(1, row[0]), counts ? 2 : 1);
        }
        x.sight(1, 0);
        x.untell(3);
        CHECK.due("TOLD and UNTOLD at the same TIME", x.alibis(0, 8), 12);
    }

    /** "gone on by 0 places or more (less than it has), with no two places or some two (the first less) EXCHANGED then" */
    private static void waysOfSoManyPlaces() {
        for (int places = 1; places <= 14; places++) {
            TwoInOne x = Check.of(EIGHT + "person p of a b turn 1" + Check.times(" 0", places - 1) + ";");
            int ways = places * (1 + places * (places - 1) / 2);
            CHECK.due("of " + places + " places", x.alibis(0, 0), ways);
            CHECK.lying("of " + places + " places", x, 0, -1, -1);
        }
    }

    /** "(less than it has)": all but the last place gone on by. */
    private static void goneOnByLessThanItHas() {
        int[] turn = {0, 0, 0, 0, 1, 1, 1, 1, 2, 2, 2, 2, 2, 2};
        StringBuilder text = new StringBuilder(EIGHT + "person p of a b c turn");
        for (int place : turn) {
            text.append(" ").append(place);
        }
        for (int goneOn = 0; goneOn < 14; goneOn++) {
            TwoInOne x = Check.of(text + ";");
            for (int day = 0; day < 14; day++) {
                x.sight(14 + day, turn[(day + goneOn) % 14]);
            }
            // none EXCHANGED, or two of one HALF: 6, 6 and 15 of these
            CHECK.due("gone on by " + goneOn, x.alibis(0, 0), 28);
            CHECK.lying("gone on by " + goneOn, x, goneOn, -1, -1);
        }
    }

    /** "EXCHANGED then": behind going on. */
    private static void exchangedThen() {
        TwoInOne x = Check.of(ABC);
        x.sight(0, 2);
        x.sight(4, 1);
        x.sight(98, 0);
        // a b c, 0 with 2; b c a, 0 with 1; c a b, 1 with 2
        CHECK.due("c b a", x.alibis(0, 0), 3);
        CHECK.lying("c b a", x, 0, 0, 2);
        TwoInOne on = Check.of(ABC);
        on.sight(3, 1);
        on.sight(7, 2);
        on.sight(11, 0);
        CHECK.due("b c a", on.alibis(0, 0), 1);
        CHECK.lying("b c a", on, 1, -1, -1);
    }

    /** "Of the first by how many places it goes on, its two places (NONE, NONE)"; "(Ordered by these; NONE first.)" */
    private static void firstByThese() {
        TwoInOne x = Check.of(ABC);
        x.sight(1, 2);
        // a b c: 1 with 2; b c a: none, or 0 with 2; c a b: 0 with 1
        CHECK.due("c on DAY 1", x.alibis(0, 0), 4);
        CHECK.lying("gone on by less comes first", x, 0, 1, 2);
        TwoInOne none = Check.of(ABC);
        none.sight(1, 1);
        // a b c: none, or 0 with 2; b c a: 0 with 1; c a b: 1 with 2
        CHECK.due("b on DAY 1", none.alibis(0, 0), 4);
        CHECK.lying("NONE first", none, 0, -1, -1);
        TwoInOne like = Check.of(EIGHT + "person p of a b turn 0 1 1 1;");
        like.sight(0, 1);
        // a b b b: 0 with 1, 0 with 2, 0 with 3; then those that go on: none and three of six, each
        CHECK.due("b on DAY 0", like.alibis(0, 0), 3 + 3 * (7 - 1));
        CHECK.lying("the least of the second places", like, 0, 0, 1);
    }

    /** "(behind 0, NONE: nothing)" */
    private static void noAlibi() {
        TwoInOne x = Check.of(ABC);
        x.alibis(0, 0);
        x.sight(0, 0);
        x.sight(3, 1);
        CHECK.due("two on one place", x.alibis(0, 0), 0);
        CHECK.lying("two on one place", x);
        CHECK.due("who", x.who(0, 0, 0), 0);
        CHECK.due("who, on another DAY", x.who(0, 99, 0), 0);
        TwoInOne twice = Check.of(ABC);
        twice.sight(0, 0);
        twice.sight(1, 0);
        CHECK.due("a has one place, not two", twice.alibis(0, 0), 0);
        TwoInOne never = Check.of(EIGHT + "person p of a b turn 0;");
        never.sight(0, 0);
        CHECK.due("one place", never.alibis(0, 0), 1);
        never.sight(99, 1);
        CHECK.due("never IN", never.alibis(0, 0), 0);
    }

    /** "NONE if there is none such." */
    private static void alibisAsked() {
        TwoInOne x = Check.of(ABC);
        for (int person : new int[] {-1, 2, MOST, LEAST}) {
            x.alibis(0, 0);
            CHECK.due("alibis(" + person + ", 0)", x.alibis(person, 0), -1);
            CHECK.lying("alibis(" + person + ", 0)", x);
        }
        CHECK.due("the last PERSON", x.alibis(1, 0), 4);
        CHECK.due("without PERSONS", Check.of(EIGHT).alibis(0, 0), -1);
    }

    /** "all SIGHTS of its HALVES that count" */
    private static void sightsOfItsHalves() {
        TwoInOne x = Check.of(ABC);
        x.sight(0, 7);
        x.sight(1, 7);
        x.shown(0, 5);
        x.shown(0, 6);
        CHECK.due("q has none", x.alibis(1, 0), 0);
        CHECK.due("p has all", x.alibis(0, 0), 12);
        CHECK.due("who of p", x.who(0, 0, 0), 7);
        CHECK.due("who of q", x.who(1, 0, 0), 0);
    }

    /** "its turn, as it is told" */
    private static void asItIsTold() {
        TwoInOne x = Check.of(ABC + "deed d joy 1 load 0;");
        x.exchange(0, 0, 2);
        x.prank();
        x.die(0);
        x.days(1);
        x.sight(0, 0);
        x.sight(1, 1);
        x.sight(2, 2);
        CHECK.due("as told", x.alibis(0, 0), 1);
        CHECK.lying("as told", x, 0, -1, -1);
        CHECK.due("who is dead can have been IN", x.who(0, 99, 0), 1);
    }

    /** "on a DAY (0 .. 99), as bits; 0 without ALIBIS; NONE if one can't be." */
    private static void whoOnADay() {
        TwoInOne x = Check.of(ABC);
        x.sight(0, 0);
        x.sight(1, 1);
        CHECK.due("who(0, 0, 0)", x.who(0, 0, 0), 1);
        CHECK.due("who(0, 1, 0)", x.who(0, 1, 0), 2);
        CHECK.due("who(0, 98, 0)", x.who(0, 98, 0), 4);
        CHECK.due("who(0, 99, 0)", x.who(0, 99, 0), 1);
        for (int day : new int[] {-1, 100, MOST, LEAST}) {
            CHECK.due("who(0, " + day + ", 0)", x.who(0, day, 0), -1);
        }
        for (int person : new int[] {-1, 2, MOST, LEAST}) {
            CHECK.due("who(" + person + ", 0, 0)", x.who(person, 0, 0), -1);
        }
        x.sight(0, 1);
        CHECK.due("without ALIBIS", x.who(0, 0, 0), 0);
        CHECK.due("without ALIBIS, no such DAY", x.who(0, 100, 0), -1);
    }

    private static void whoAsBits() {
        TwoInOne x = Check.of(ABC);
        CHECK.due("a, b or c", x.who(0, 0, 0), 1 + 2 + 4);
        CHECK.due("g or h", x.who(1, 99, 0), 64 + 128);
        x.sight(1, 7);
        CHECK.due("h on DAY 1", x.who(1, 99, 0), 128);
        CHECK.due("g on DAY 0", x.who(1, 0, 0), 64);
        TwoInOne never = Check.of(EIGHT + "person p of h a turn 0;");
        CHECK.due("who is never IN can't have been", never.who(0, 5, 0), 128);
    }

    /** "as many HALVES as unlike skills seen (1, if none)" */
    private static void strangerOfNoSkill() {
        TwoInOne x = new TwoInOne();
        CHECK.due("none: HALVES", x.stranger(0, 0), 1);
        CHECK.due("none: DAYS", x.stranger(1, 0), 1);
        x.shown(0, 0);
        CHECK.due("one: HALVES", x.stranger(0, 0), 1);
        CHECK.due("one: DAYS", x.stranger(1, 0), 1);
        x.shown(99, 0);
        x.shown(50, 0);
        CHECK.due("the same: HALVES", x.stranger(0, 0), 1);
        CHECK.due("the same: DAYS", x.stranger(1, 0), 1);
        x.shown(49, 9);
        CHECK.due("two: HALVES", x.stranger(0, 0), 2);
        // 0, 50, 99 against 49: 1, 5 (99 - 49 is 50), 2 by the same 50, 7 (49 - 0): 3 is the least
        CHECK.due("two: DAYS", x.stranger(1, 0), 3);
        TwoInOne halves = Check.of(ABC);
        halves.sight(0, 0);
        halves.sight(1, 1);
        CHECK.due("SIGHTS of HALVES are none of a stranger: HALVES", halves.stranger(0, 0), 1);
        CHECK.due("SIGHTS of HALVES are none of a stranger: DAYS", halves.stranger(1, 0), 1);
    }

    /** "the least number of DAYS (1 .. 9) of a turn"; "NONE if there is none (more than one skill on a place for all)" */
    private static void strangerOfNineDays() {
        for (int days = 1; days <= 9; days++) {
            TwoInOne x = new TwoInOne();
            // DAY 0 against each that would make a turn shorter
            x.shown(0, 4);
            for (int day = 1; day < days; day++) {
                x.shown(day, 5);
            }
            CHECK.due("DAYS", x.stranger(1, 0), days);
            CHECK.due("HALVES", x.stranger(0, 0), days == 1 ? 1 : 2);
        }
        TwoInOne ten = new TwoInOne();
        ten.shown(0, 4);
        for (int day = 1; day <= 9; day++) {
            ten.shown(day, 5);
        }
        CHECK.due("ten: DAYS", ten.stranger(1, 0), -1);
        CHECK.due("ten: HALVES", ten.stranger(0, 0), -1);
        TwoInOne twice = new TwoInOne();
        twice.shown(99, 4);
        twice.shown(99, 5);
        CHECK.due("two on a DAY: DAYS", twice.stranger(1, 0), -1);
        CHECK.due("two on a DAY: HALVES", twice.stranger(0, 0), -1);
        twice.later(1);
        twice.untell(1);
        CHECK.due("one of them UNTOLD", twice.stranger(0, 1), 1);
        TwoInOne far = new TwoInOne();
        far.shown(0, 4);
        far.shown(99, 5);
        // 99 by 1 and by 3 leaves nothing, by 2 it leaves 1
        CHECK.due("99 DAYS apart: DAYS", far.stranger(1, 0), 2);
    }

    private static void strangerOfManySkills() {
        TwoInOne x = new TwoInOne();
        for (int skill = 0; skill < 9; skill++) {
            x.shown(skill, skill);
            CHECK.due("HALVES", x.stranger(0, 0), skill + 1);
            CHECK.due("DAYS", x.stranger(1, 0), skill + 1);
        }
        x.shown(9, 9);
        CHECK.due("ten skills: HALVES", x.stranger(0, 0), -1);
        CHECK.due("ten skills: DAYS", x.stranger(1, 0), -1);
        TwoInOne last = new TwoInOne();
        last.shown(90, 9);
        for (int skill = 1; skill < 9; skill++) {
            last.shown(90 + skill, skill);
        }
        CHECK.due("the last nine DAYS: HALVES", last.stranger(0, 0), 9);
        CHECK.due("the last nine DAYS: DAYS", last.stranger(1, 0), 9);
    }

    /** "or for another what." */
    private static void strangerAsked() {
        TwoInOne x = new TwoInOne();
        for (int what : new int[] {-1, 2, MOST, LEAST}) {
            CHECK.due("stranger(" + what + ", 0)", x.stranger(what, 0), -1);
        }
    }

    /** "are kept in a BOX 0 .. 2: the DAY; NONE if there is none such."; "NONE, doing nothing, if nothing was." */
    private static void boxes() {
        TwoInOne x = Check.of(ABC + "deed d joy 1 load 0;");
        for (int box : new int[] {-1, 3, MOST, LEAST}) {
            CHECK.due("image(" + box + ")", x.image(box), -1);
            CHECK.due("back(" + box + ")", x.back(box), -1);
        }
        for (int box = 0; box <= 2; box++) {
            CHECK.due("nothing was kept", x.back(box), -1);
        }
        for (int box = 0; box <= 2; box++) {
            x.days(box + 1);
            CHECK.due("image(" + box + ")", x.image(box), new int[] {1, 3, 6}[box]);
        }
        for (int box = 2; box >= 0; box--) {
            CHECK.due("back(" + box + ")", x.back(box), new int[] {1, 3, 6}[box]);
            CHECK.due("done", x.record(0, 0) + x.record(1, 0) + x.record(2, 0), new int[] {1, 3, 6}[box]);
        }
        x.days(60);
        CHECK.due("kept anew", x.image(1), 61);
        CHECK.due("back(0)", x.back(0), 1);
        CHECK.due("back(1)", x.back(1), 61);
        CHECK.due("once more", x.back(1), 61);
        CHECK.due("back(2), kept still", x.back(2), 6);
        CHECK.due("on a new object", new TwoInOne().image(2), 0);
    }

    /** "DAYS, LOADS, turns, who is alive, RECORDS, the SEED are kept"; the others are not. */
    private static void allThatIsKept() {
        TwoInOne x = Check.of(ABC + "deed d joy 2 load load + 1;draw 4;");
        x.days(4);
        x.image(0);
        x.exchange(0, 0, 1);
        x.die(7);
        x.prank();
        x.days(5);
        x.next(0);
        x.shown(0, 3);
        x.later(9);
        x.together(0, 7);
        x.feed(0, 0, 0, 0, 0);
        CHECK.due("back(0)", x.back(0), 4);
        int[] due = {8, 2, 1, 4, 4, 0, 0, 1, 1, 9, 20, 3, 7, 0};
        for (int what = 0; what < due.length; what++) {
            CHECK.due("about(" + what + ")", x.about(what), due[what]);
        }
        CHECK.due("p's LOAD", x.person(0, 0), 4);
        CHECK.due("q's LOAD", x.person(1, 0), 4);
        for (int day = 0; day < 6; day++) {
            CHECK.due("p's turn", x.in(0, day), day % 3);
            CHECK.due("q's turn", x.in(1, day), 7 - day % 2);
        }
        CHECK.due("h is alive", x.half(7, 3), 1);
        CHECK.due("a's RECORD", x.record(0, 0), 2);
        CHECK.due("a's JOY", x.record(0, -1), 4);
        CHECK.due("h's RECORD", x.record(7, 0), 2);
    }

    /** "All is as it was kept (no ACTS are kept then)" */
    private static void backWithoutActs() {
        TwoInOne x = Check.of(ABC + "deed d joy 2 load load + 1;");
        x.days(1);
        x.image(0);
        x.days(1);
        x.undo();
        CHECK.due("one, and one undone", x.about(5) * 10 + x.about(6), 11);
        CHECK.due("an empty BOX", x.back(1), -1);
        CHECK.due("does nothing", x.about(5) * 10 + x.about(6), 11);
        CHECK.due("back(0)", x.back(0), 1);
        CHECK.due("none is kept", x.about(5) + x.about(6), 0);
        CHECK.due("undo()", x.undo(), false);
        CHECK.due("redo()", x.redo(), false);
        x.die(0);
        CHECK.due("one ACT behind it", x.about(5), 1);
        CHECK.due("undo()", x.undo(), true);
        CHECK.due("undo() of none", x.undo(), false);
        CHECK.due("as it was kept", x.about(3), 1);
    }

    /** "NONE for another what." */
    private static void aboutAsked() {
        TwoInOne x = Check.of(ABC);
        CHECK.due("about(0)", x.about(0), 8);
        CHECK.due("about(13)", x.about(13), 0);
        for (int what : new int[] {-1, 14, MOST, LEAST}) {
            CHECK.due("about(" + what + ")", x.about(what), -1);
        }
    }

    /** "An object is used for at most 512 calls after it has been made" */
    private static void callsOfOneObject() {
        TwoInOne x = new TwoInOne();
        for (int i = 0; i < 100; i++) {
            x.later(1000);
        }
        for (int i = 101; i <= 511; i++) {
            CHECK.due("call " + i, x.later(1), -1);
        }
        CHECK.due("call 512", x.about(9), 100000);
    }
}
