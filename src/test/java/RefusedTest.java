import java.util.ArrayList;
import java.util.List;
import java.util.function.Consumer;
import java.util.function.ToLongFunction;

/**
 * A refused call answers what the document says and does nothing; neither does what is only asked for. Two objects get the same
 * calls, one of them the refused call, too: all that can be asked of them is alike then, and what can be undone, redone, gone
 * back to.
 */
public final class RefusedTest {
    private static final Check CHECK = new Check("RefusedTest");
    private static final int GAP = TwoInOne.GAP;
    private static final int MOST = Integer.MAX_VALUE;
    private static final int LEAST = Integer.MIN_VALUE;
    private static final int BLANKS = 0x20202020;
    private static final String TEXT = "half a skill 3 cares 2;half b skill 1;half c skill 5;half d skill 2 cares 1;half e skill 9;"
        + "person p of a b turn 0 1 1;person q of c d turn 1 0;deed t joy skill-load load load-1;deed u joy 4-load/2 load load+3;"
        + "like a to b 3;like c to d 4;like e to a 2;favour b 2;favour d 1;draw 8;";

    public static void main(String[] args) {
        refusedOnTheTape();
        refusedRegister();
        refusedActs();
        refusedOnTheLastDay();
        refusedWithNobodyIn();
        refusedOfOthers();
        refusedWhenFull();
        refusedGamesLeaveNothing();
        wrongQuestions();
        nothingIsDoneByAsking();
        CHECK.finish();
    }

    /** Some of all that there is: ACTS done and undone, a BARGAIN, SIGHTS, a BOX, a row, bytes on the TAPE. */
    private static void use(TwoInOne x) {
        Check.write(x, TEXT);
        x.register();
        x.days(3);
        x.image(1);
        x.exchange(0, 0, 1);
        x.decree(1, 1);
        x.prank();
        x.die(4);
        x.undo();
        x.undo();
        x.next(1);
        x.next(0);
        x.later(2);
        x.sight(1, 0);
        x.shown(4, 7);
        x.later(3);
        x.untell(0);
        x.feed(BLANKS, BLANKS, BLANKS, BLANKS, 0x68616c66);
        x.together(0, 4);
    }

    private static void refused(String name, ToLongFunction<TwoInOne> call, long want) {
        refused(name, RefusedTest::use, call, want);
    }

    private static void refused(String name, Consumer<TwoInOne> before, ToLongFunction<TwoInOne> call, long want) {
        TwoInOne x = new TwoInOne();
        TwoInOne twin = new TwoInOne();
        before.accept(x);
        before.accept(twin);
        CHECK.due(name, call.applyAsLong(x), want);
        alike(name, x, twin);
    }

    private static void alike(String name, TwoInOne x, TwoInOne twin) {
        List<Integer> got = new ArrayList<>();
        List<Integer> want = new ArrayList<>();
        ask(x, got);
        ask(twin, want);
        for (int i = 0; i < want.size(); i++) {
            CHECK.due(name + " does nothing: answer " + i, got.get(i), want.get(i));
        }
    }

    /** Fewer than 450 calls, so that one object has fewer than 512 in all. */
    private static void ask(TwoInOne x, List<Integer> answers) {
        askOfHalves(x, answers);
        askOfPersons(x, answers);
        for (int i = 0; i < 21; i++) {
            answers.add(x.lies(i));
        }
        for (int k = 0; k <= 6; k++) {
            answers.add(x.stranger(0, k));
            answers.add(x.stranger(1, k));
            answers.add(x.alibis(0, k));
            answers.add(x.alibis(1, k));
        }
        answers.add(x.pairing(false));
        answers.add(x.fast());
        answers.add(x.popular());
        answers.add(x.stolen(9));
        for (int day = 0; day < 4; day++) {
            answers.add(x.elected(day));
        }
        goThrough(x, answers);
    }

    private static void askOfHalves(TwoInOne x, List<Integer> answers) {
        for (int what = 0; what <= 13; what++) {
            answers.add(x.about(what));
        }
        for (int half = 0; half < 5; half++) {
            for (int what = 0; what <= 4; what++) {
                answers.add(x.half(half, what));
                answers.add(x.likes(half, what));
            }
            for (int deed = -1; deed < 2; deed++) {
                answers.add(x.record(half, deed));
                answers.add(x.guilt(deed, half, 1));
            }
        }
    }

    private static void askOfPersons(TwoInOne x, List<Integer> answers) {
        for (int person = 0; person < 2; person++) {
            for (int i = 0; i < 3; i++) {
                answers.add(x.person(person, i));
                answers.add(x.in(person, i));
                answers.add(x.chooses(person, i - 1));
                answers.add(x.joy(person, i));
                answers.add(x.who(person, i, 4));
            }
            answers.add(x.breaks(person, 9));
            answers.add(x.cares(person, 9));
            answers.add(x.keeps(person, 2 * person, 9));
        }
    }

    /** All that can be redone, undone and gone back to. */
    private static void goThrough(TwoInOne x, List<Integer> answers) {
        for (int i = 0; i < 3; i++) {
            answers.add(x.redo() ? 1 : 0);
            answers.add(x.about(3));
            answers.add(x.about(4));
        }
        for (int i = 0; i < 42; i++) {
            answers.add(x.undo() ? 1 : 0);
        }
        answers.add(x.about(3));
        answers.add(x.person(0, 0));
        answers.add(x.in(0, 0));
        for (int box = 0; box < 3; box++) {
            answers.add(x.back(box));
            answers.add(x.person(0, 0));
        }
        answers.add(x.untell(0) ? 1 : 0);
        answers.add(x.untell(1) ? 1 : 0);
        answers.add(x.hush());
        answers.add(x.end(20));
        answers.add(x.register());
        answers.add(x.fault(0));
        answers.add(x.fault(1));
    }

    private static void refusedOnTheTape() {
        for (int n : new int[] {-1, 21, 1600, MOST, LEAST}) {
            refused("end(" + n + ")", x -> x.end(n), -1);
        }
        Consumer<TwoInOne> full = x -> {
            use(x);
            for (int i = 0; i < 79; i++) {
                x.feed(BLANKS, BLANKS, BLANKS, BLANKS, BLANKS);
            }
        };
        refused("feed on a full TAPE", full, x -> x.feed(0, 0, 0, 0, 0), -1);
        Consumer<TwoInOne> nearly = x -> {
            full.accept(x);
            x.end(1581);
        };
        refused("feed of one too many", nearly, x -> x.feed(0, 0, 0, 0, 0), -1);
    }

    /** The text that is on the TAPE has a FAULT; only fault() tells of it. */
    private static void refusedRegister() {
        refused("register() with a FAULT", x -> x.register(), -1);
        TwoInOne x = new TwoInOne();
        use(x);
        x.register();
        CHECK.due("its FAULT", x.fault(0), 2);
        CHECK.due("its place", x.fault(1), 20);
    }

    private static void refusedActs() {
        for (int n : new int[] {-1, 61, MOST, LEAST}) {
            refused("days(" + n + ")", x -> x.days(n), -1);
        }
        for (int wrong : new int[] {-1, 2, MOST, LEAST}) {
            refused("decree(" + wrong + ", 0)", x -> x.decree(wrong, 0), GAP);
            refused("decree(0, " + wrong + ")", x -> x.decree(0, wrong), GAP);
            refused("exchange(" + wrong + ", 0, 1)", x -> x.exchange(wrong, 0, 1) ? 1 : 0, 0);
        }
        for (int wrong : new int[] {-1, 3, MOST, LEAST}) {
            refused("exchange(0, 0, " + wrong + ")", x -> x.exchange(0, 0, wrong) ? 1 : 0, 0);
            refused("exchange(0, " + wrong + ", 0)", x -> x.exchange(0, wrong, 0) ? 1 : 0, 0);
        }
        for (int place = -1; place <= 3; place++) {
            int same = place;
            refused("exchange(0, " + same + ", " + same + ")", x -> x.exchange(0, same, same) ? 1 : 0, 0);
        }
        for (int wrong : new int[] {-1, 5, MOST, LEAST}) {
            refused("die(" + wrong + ")", x -> x.die(wrong), -1);
        }
        Consumer<TwoInOne> alone = x -> {
            Check.write(x, "half a skill 1;half b skill 1;draw 3;");
            x.register();
            x.die(0);
            x.die(1);
            x.undo();
        };
        refused("prank() without PERSONS", alone, x -> x.prank(), -1);
        refused("redo() of none", x -> {
            use(x);
            x.redo();
            x.redo();
        }, x -> x.redo() ? 1 : 0, 0);
        refused("undo() of none", x -> {
            use(x);
            for (int i = 0; i < 3; i++) {
                x.undo();
            }
        }, x -> x.undo() ? 1 : 0, 0);
    }

    private static void refusedOnTheLastDay() {
        Consumer<TwoInOne> last = x -> {
            use(x);
            for (int i = 0; i < 14; i++) {
                x.days(60);
            }
            x.days(56);
            x.die(0);
            x.undo();
        };
        TwoInOne x = new TwoInOne();
        last.accept(x);
        CHECK.due("the DAY is 900", x.about(3), 900);
        refused("days(1) on DAY 900", last, y -> y.days(1), -1);
        refused("days(60) on DAY 900", last, y -> y.days(60), -1);
        refused("decree(0, 0) on DAY 900", last, y -> y.decree(0, 0), GAP);
        refused("decree(1, 1) on DAY 900", last, y -> y.decree(1, 1), GAP);
    }

    private static void refusedWithNobodyIn() {
        Consumer<TwoInOne> nobody = x -> {
            use(x);
            x.die(0);
            x.die(1);
            x.prank();
            x.undo();
        };
        refused("decree(0, 0) with NOBODY IN", nobody, x -> x.decree(0, 0), GAP);
        refused("decree(0, 1) with NOBODY IN", nobody, x -> x.decree(0, 1), GAP);
        refused("joy(0, 0) with NOBODY IN", nobody, x -> x.joy(0, 0), GAP);
        refused("chooses(0, 0) with NOBODY IN", nobody, x -> x.chooses(0, 0), -1);
    }

    private static void refusedOfOthers() {
        for (int wrong : new int[] {-1, 2, MOST, LEAST}) {
            refused("next(" + wrong + ")", x -> x.next(wrong), -1);
            refused("untell(" + wrong + ")", x -> x.untell(wrong) ? 1 : 0, 0);
        }
        refused("untell(0), UNTOLD already", x -> x.untell(0) ? 1 : 0, 0);
        for (int day : new int[] {-1, 100, MOST, LEAST}) {
            refused("sight(" + day + ", 0)", x -> x.sight(day, 0), -1);
            refused("shown(" + day + ", 0)", x -> x.shown(day, 0), -1);
        }
        for (int half : new int[] {-1, 4, 5, MOST, LEAST}) {
            refused("sight(0, " + half + ")", x -> x.sight(0, half), -1);
        }
        for (int skill : new int[] {-1, 10, MOST, LEAST}) {
            refused("shown(0, " + skill + ")", x -> x.shown(0, skill), -1);
        }
        for (int by : new int[] {-1, 1001, MOST, LEAST}) {
            refused("later(" + by + ")", x -> x.later(by), -1);
        }
        for (int box : new int[] {-1, 3, MOST, LEAST}) {
            refused("image(" + box + ")", x -> x.image(box), -1);
            refused("back(" + box + ")", x -> x.back(box), -1);
        }
        refused("back(0), which is empty", x -> x.back(0), -1);
        refused("back(2), which is empty", x -> x.back(2), -1);
    }

    private static void refusedWhenFull() {
        Consumer<TwoInOne> told = x -> {
            use(x);
            for (int i = 0; i < 12; i++) {
                x.next(i % 2);
            }
        };
        refused("a fifteenth next(0)", told, x -> x.next(0), -1);
        Consumer<TwoInOne> seen = x -> {
            use(x);
            for (int i = 0; i < 28; i++) {
                x.shown(i, 2);
            }
        };
        refused("a 31st sight(0, 0)", seen, x -> x.sight(0, 0), -1);
        refused("a 31st shown(0, 0)", seen, x -> x.shown(0, 0), -1);
        Consumer<TwoInOne> late = x -> {
            use(x);
            for (int i = 0; i < 99; i++) {
                x.later(1000);
            }
            x.later(994);
        };
        refused("later(2) to 100,001", late, x -> x.later(2), -1);
    }

    /** They leave nothing that lies there, and are nothing else. */
    private static void refusedGamesLeaveNothing() {
        List<ToLongFunction<TwoInOne>> games = List.of(x -> x.played(0, 0, 0), x -> x.played(0, 0, 21), x -> x.played(0, 2, 1),
            x -> x.played(0, 4, 1), x -> x.played(2, 0, 1), x -> x.played(-1, 0, 1), x -> x.together(0, 0), x -> x.together(0, 21),
            x -> x.together(2, 1), x -> x.together(-1, 1));
        Consumer<TwoInOne> emptied = x -> {
            use(x);
            x.alibis(-1, 0);
        };
        for (ToLongFunction<TwoInOne> game : games) {
            TwoInOne x = new TwoInOne();
            use(x);
            CHECK.due("wrong game", game.applyAsLong(x), GAP);
            TwoInOne twin = new TwoInOne();
            emptied.accept(twin);
            CHECK.due("nothing lies there", x.about(12), 0);
            alike("wrong game", x, twin);
        }
    }

    private static void wrongQuestions() {
        for (int wrong : new int[] {-1, 5, MOST, LEAST}) {
            refused("half(" + wrong + ", 0)", x -> x.half(wrong, 0), -1);
            refused("half(0, " + wrong + ")", x -> x.half(0, wrong), -1);
            refused("likes(" + wrong + ", 0)", x -> x.likes(wrong, 0), -1);
            refused("person(" + wrong + ", 0)", x -> x.person(wrong, 0), -1);
            refused("person(0, " + wrong + ")", x -> x.person(0, wrong), -1);
            refused("in(" + wrong + ", 0)", x -> x.in(wrong, 0), -2);
            refused("chooses(" + wrong + ", 0)", x -> x.chooses(wrong, 0), -2);
            refused("joy(0, " + wrong + ")", x -> x.joy(0, wrong), GAP);
            refused("record(" + wrong + ", 0)", x -> x.record(wrong, 0), GAP);
            refused("guilt(0, 0, " + wrong + ")", x -> x.guilt(0, 0, wrong), -1);
            refused("breaks(" + wrong + ", 1)", x -> x.breaks(wrong, 1), -2);
            refused("cares(" + wrong + ", 1)", x -> x.cares(wrong, 1), -2);
            refused("keeps(0, " + wrong + ", 1)", x -> x.keeps(0, wrong, 1), GAP);
            refused("who(" + wrong + ", 0, 0)", x -> x.who(wrong, 0, 0), -1);
            refused("stranger(" + wrong + ", 0)", x -> x.stranger(wrong, 0), -1);
            refused("fault(" + wrong + ")", x -> x.fault(wrong), -1);
        }
        for (int wrong : new int[] {-1, 1000, MOST, LEAST}) {
            refused("in(0, " + wrong + ")", x -> x.in(0, wrong), -2);
            refused("elected(" + wrong + ")", x -> x.elected(wrong), -1);
            refused("stolen(" + wrong + ")", x -> x.stolen(wrong), -1);
            refused("lies(" + wrong + ")", x -> x.lies(wrong), -1);
            refused("about(" + wrong + ")", x -> x.about(wrong), -1);
        }
    }

    /** "(Below all is asked of a PERSON from the coming DAY on, for n DAYS, and nothing is done.)" */
    private static void nothingIsDoneByAsking() {
        List<ToLongFunction<TwoInOne>> asked = List.of(x -> x.breaks(0, 20), x -> x.cares(1, 20), x -> x.keeps(0, 1, 20),
            x -> x.fast(), x -> x.elected(999), x -> x.popular(), x -> x.stolen(99), x -> x.who(1, 99, 0), x -> x.stranger(1, 9),
            x -> x.chooses(0, 9), x -> x.joy(1, 1), x -> x.in(1, 999), x -> x.guilt(1, 0, 1), x -> x.record(0, -1));
        for (ToLongFunction<TwoInOne> each : asked) {
            TwoInOne x = new TwoInOne();
            TwoInOne twin = new TwoInOne();
            use(x);
            use(twin);
            each.applyAsLong(x);
            alike("asking", x, twin);
        }
        List<ToLongFunction<TwoInOne>> rows = List.of(x -> x.played(1, 3, 20), x -> x.together(1, 20), x -> x.pairing(true),
            x -> x.alibis(0, 3));
        for (ToLongFunction<TwoInOne> each : rows) {
            TwoInOne x = new TwoInOne();
            TwoInOne twin = new TwoInOne();
            use(x);
            use(twin);
            each.applyAsLong(x);
            x.together(0, 4);
            alike("asking for a row", x, twin);
        }
    }
}
