/** Promises 1 to 5, and 43 as far as it is told: the TAPE, TOKENS, the grammar, FAULTS. */
public final class ReadingTest {
    private static final Check CHECK = new Check("ReadingTest");
    private static final String TWO = "half a skill 3;half b skill 1;";

    public static void main(String[] args) {
        newObject();
        tape();
        tapeIsFull();
        registerEmptiesAndStays();
        tokens();
        noTokens();
        halves();
        likes();
        persons();
        deeds();
        units();
        nesting();
        favoursAndDraw();
        tooMany();
        firstFaultCounts();
        cutShort();
        bytesBehindTheEnd();
        CHECK.finish();
    }

    private static void newObject() {
        TwoInOne x = new TwoInOne();
        for (int what = 0; what <= 13; what++) {
            CHECK.due("new: about(" + what + ")", x.about(what), 0);
        }
        CHECK.due("new: about(14)", x.about(14), -1);
        CHECK.due("new: about(-1)", x.about(-1), -1);
        CHECK.due("new: fault(0)", x.fault(0), 0);
        CHECK.due("new: fault(1)", x.fault(1), -1);
        CHECK.due("new: fault(2)", x.fault(2), -1);
        CHECK.due("new: fault(-1)", x.fault(-1), -1);
        CHECK.due("new: undo()", x.undo(), false);
        CHECK.due("new: redo()", x.redo(), false);
        CHECK.due("new: back(0)", x.back(0), -1);
        CHECK.due("new: lies(0)", x.lies(0), -1);
        CHECK.due("new: register()", x.register(), 0);
    }

    private static void tape() {
        TwoInOne x = new TwoInOne();
        // "half a skill 7;" and five blanks: of each number the highest byte comes first
        CHECK.due("feed", x.feed(0x68616c66, 0x20612073, 0x6b696c6c, 0x20373b20, 0x20202020), 20);
        CHECK.due("about(10)", x.about(10), 20);
        CHECK.due("end(21)", x.end(21), -1);
        CHECK.due("end(-1)", x.end(-1), -1);
        CHECK.due("about(10) behind wrong ends", x.about(10), 20);
        CHECK.due("end(20)", x.end(20), 20);
        CHECK.due("end(15)", x.end(15), 15);
        CHECK.due("feed", x.feed(0x68616c66, 0x20622073, 0x6b696c6c, 0x20393b20, 0x0a0a0a0a), 35);
        CHECK.due("register()", x.register(), 2);
        CHECK.due("half(0, 1)", x.half(0, 1), 7);
        CHECK.due("half(1, 1)", x.half(1, 1), 9);
        CHECK.due("about(10) behind register()", x.about(10), 0);
        CHECK.due("end(0)", x.end(0), 0);
        CHECK.due("end(1)", x.end(1), -1);
        x.feed(-1, 0, 0, 0, 0);
        CHECK.due("bytes 255: register()", x.register(), -1);
        CHECK.due("bytes 255: fault(0)", x.fault(0), 1);
        CHECK.due("bytes 255: fault(1)", x.fault(1), 0);
    }

    private static void tapeIsFull() {
        TwoInOne x = new TwoInOne();
        for (int i = 1; i <= 80; i++) {
            CHECK.due("feed " + i, x.feed(0x20202020, 0x20202020, 0x20202020, 0x20202020, 0x20202020), 20 * i);
        }
        CHECK.due("feed 81", x.feed(0, 0, 0, 0, 0), -1);
        CHECK.due("about(10) full", x.about(10), 1600);
        CHECK.due("end(1581)", x.end(1581), 1581);
        CHECK.due("feed beyond 1600", x.feed(0, 0, 0, 0, 0), -1);
        CHECK.due("about(10) nothing came", x.about(10), 1581);
        CHECK.due("end(1580)", x.end(1580), 1580);
        CHECK.due("feed up to 1600", x.feed(0x20202020, 0x20202020, 0x20202020, 0x20202020, 0x68616c66), 1600);
        CHECK.due("register() of blanks and half", x.register(), -1);
        CHECK.due("its FAULT", x.fault(0), 2);
        CHECK.due("its place: the end", x.fault(1), 1600);
        x.end(1596);
        CHECK.due("register() of blanks", x.register(), 0);
    }

    private static void registerEmptiesAndStays() {
        TwoInOne x = Check.of(TWO + "person p of a b turn 0 1;deed d joy 1 load 2;draw 5;like a to b 1;");
        x.days(2);
        x.die(0);
        x.undo();
        x.image(1);
        x.next(0);
        x.sight(0, 0);
        x.later(7);
        x.together(0, 2);
        Check.write(x, "half a skill 3;wrong");
        CHECK.due("register() with a FAULT", x.register(), -1);
        CHECK.due("the TAPE stays", x.about(10), 20);
        int[] stays = {2, 1, 1, 2, 5, 1, 1, 1, 1, 7, 20, 2, 2, 1};
        for (int what = 0; what < stays.length; what++) {
            CHECK.due("about(" + what + ") stays", x.about(what), stays[what]);
        }
        x.end(15);
        CHECK.due("register()", x.register(), 1);
        int[] then = {1, 0, 0, 0, 0, 0, 0, 0, 0, 7, 0, 0, 0, 0};
        for (int what = 0; what < then.length; what++) {
            CHECK.due("about(" + what + ") then", x.about(what), then[what]);
        }
        CHECK.due("fault(0) then", x.fault(0), 0);
        CHECK.due("fault(1) then", x.fault(1), -1);
        CHECK.due("back(1) then", x.back(1), -1);
        CHECK.due("lies(0) then", x.lies(0), -1);
        CHECK.due("register() of nothing", x.register(), 0);
        CHECK.due("about(0) then", x.about(0), 0);
    }

    private static void tokens() {
        CHECK.fine("", 0);
        CHECK.fine(" \n \n", 0);
        CHECK.fine("half a skill 3;", 1);
        CHECK.fine("\nhalf\na\nskill\n3\n;\n", 1);
        CHECK.fine("half a skill3;half b skill 1cares2;".replace("1c", "1 c"), 2);
        CHECK.fine("half abcdefgh skill 0003;", 1);
        CHECK.fine("half e skill 1;half both skill 1;half one skill 1;half line skill 1;half name skill 1;", 5);
        CHECK.fine("half a skill 1;person a of a b turn 0;".replace("person", "half b skill 2;person"), 2);
        CHECK.fine("deed d joy((1)+2)*3 load(4);", 0);
        CHECK.fine("deed d joy 9999 load 0000;", 0);
    }

    private static void noTokens() {
        CHECK.faulty("^!", 1);
        CHECK.faulty("half ^A skill 3;", 1);
        CHECK.faulty("half a skill 3;^\t", 1);
        CHECK.faulty("half ^abcdefghi skill 3;", 1);
        CHECK.faulty("half a skill ^00003;", 1);
        CHECK.faulty("half a skill ^3cares 2;", 1);
        CHECK.faulty("half a skill 3^,", 1);
        CHECK.faulty("half a ^\u00e9skill 3;", 1);
        CHECK.faulty("deed d joy ^1load 2;", 1);
    }

    private static void halves() {
        CHECK.faulty("half^", 2);
        CHECK.faulty("half  ^", 2);
        CHECK.faulty("half a^", 2);
        CHECK.faulty("half a skill 3 ^", 2);
        CHECK.faulty("half a skill 3^", 2);
        CHECK.faulty("half ^3 skill 3;", 2);
        CHECK.faulty("half a ^cares 3;", 2);
        CHECK.faulty("half a skill ^;", 2);
        CHECK.faulty("half a skill 3 ^skill 3;", 2);
        CHECK.faulty("half a skill 3 cares ^;", 2);
        CHECK.faulty("half a skill 3 cares 3 ^cares 3;", 2);
        CHECK.faulty("half a skill ^10;", 4);
        CHECK.faulty("half a skill 1 cares ^10;", 4);
        CHECK.faulty("half a skill 1;half ^a skill 1;", 3);
        CHECK.faulty("^;", 2);
        CHECK.faulty("half a skill 1;^;", 2);
        CHECK.faulty("^name a skill 1;", 2);
        String words = "half skill cares like to person of turn deed joy load favour draw or and not day again";
        for (String word : words.split(" ")) {
            CHECK.faulty("half ^" + word + " skill 1;", 2);
        }
    }

    private static void likes() {
        TwoInOne x = CHECK.fine(TWO + "like a to b 9;like b to a 0;", 2);
        CHECK.due("about(13)", x.about(13), 2);
        CHECK.faulty(TWO + "like a to b ^10;", 4);
        CHECK.faulty(TWO + "like a to ^a 1;", 3);
        CHECK.faulty(TWO + "like a to b 1;like b to a 1;like a to ^b 1;", 3);
        CHECK.faulty(TWO + "like a to b 0;like a to ^b 0;", 3);
        CHECK.faulty(TWO + "like ^c to a 1;", 5);
        CHECK.faulty(TWO + "like a to ^c 1;", 5);
        CHECK.faulty("half a skill 1;like a to ^b 1;half b skill 1;", 5);
        CHECK.faulty(TWO + "like ^1 to b 1;", 2);
        CHECK.faulty(TWO + "like a ^b 1;", 2);
        CHECK.faulty(TWO + "like a to ^to 1;", 2);
        CHECK.faulty(TWO + "like a to b ^;", 2);
    }

    private static void persons() {
        String four = TWO + "half c skill 0;half d skill 0;";
        CHECK.fine(four + "person p of a b turn 0;person q of c d turn 1 1 0;", 4);
        CHECK.fine(four + "person p of c b a turn 0 1 2 0 1 2 0 1 2 0 1 2 0 1;", 4);
        CHECK.faulty(four + "person p of c b a turn 0 1 2 0 1 2 0 1 2 0 1 2 0 1 ^2;", 2);
        CHECK.faulty(four + "person p of c b a turn 0 1 2 0 1 2 0 1 2 0 1 2 0 1 ^9;", 2);
        CHECK.faulty(four + "person p of a b turn 0 ^2;", 4);
        CHECK.faulty(four + "person p of a b c turn 0 2 ^3;", 4);
        CHECK.faulty(four + "person p of a b turn ^;", 2);
        CHECK.faulty(four + "person p of a ^turn 0;", 2);
        CHECK.faulty(four + "person p of a b c ^d turn 0;", 2);
        CHECK.faulty(four + "person p of a b ^0;", 2);
        CHECK.faulty(four + "person p ^a b turn 0;", 2);
        CHECK.faulty(four + "person p of a ^a turn 0;", 3);
        CHECK.faulty(four + "person p of a b turn 0;person q of c ^b turn 0;", 3);
        CHECK.faulty(four + "person p of a b turn 0;person ^p of c d turn 0;", 3);
        CHECK.faulty(four + "person p of a ^e turn 0;", 5);
        CHECK.faulty(four + "person p of a b ^p turn 0;", 5);
    }

    private static void deeds() {
        CHECK.fine("deed d joy load load load;", 0);
        CHECK.fine("deed d joy 1 or 2 and 3 or not 4 < 5 load not not 1 = 2 + 3 * 4 / 5 % 6 - day;", 0);
        CHECK.faulty("deed d joy ^;", 2);
        CHECK.faulty("deed d ^load 1;", 2);
        CHECK.faulty("deed d joy 1 load ^;", 2);
        CHECK.faulty("deed d joy 1^;", 2);
        CHECK.faulty("deed d joy 1 < 2 ^< 3 load 1;", 2);
        CHECK.faulty("deed d joy 1 + ^not 2 load 1;", 2);
        CHECK.faulty("deed d joy 1 < ^not 2 load 1;", 2);
        CHECK.faulty("deed d joy ^- 1 load 1;", 2);
        CHECK.faulty("deed d joy (1 ^load 1;", 2);
        CHECK.faulty("deed d joy (^) load 1;", 2);
        CHECK.faulty("deed d joy 1^) load 1;", 2);
        CHECK.faulty("deed d joy 1 load 1 ^load 1;", 2);
        CHECK.faulty("deed d joy ^d load 1;", 2);
        CHECK.faulty("deed d joy 1 ^2 load 1;", 2);
        CHECK.faulty("deed d joy 1 load 1;deed ^d joy 1 load 1;", 3);
        CHECK.faulty("deed d joy 1 and ^and 1 load 1;", 2);
    }

    private static void units() {
        String thirty = "1" + Check.times("+1", 29);
        TwoInOne x = CHECK.fine("deed a joy " + thirty + " load " + thirty + ";deed b joy 1" + Check.times("*1", 28)
            + " load 1;", 0);
        CHECK.due("about(11)", x.about(11), 90);
        CHECK.faulty("deed a joy " + thirty + "+^1 load 1;", 2);
        CHECK.faulty("deed a joy 1 load " + thirty + "+^(1);", 2);
        CHECK.faulty("deed a joy " + thirty + " load " + thirty + ";deed b joy 1" + Check.times("*1", 28)
            + " load 1;deed c joy ^1 load 1;", 2);
        CHECK.due("a unit ( e ) is one, too", CHECK.fine("deed a joy (1) load (1 + (day));", 0).about(11), 6);
        CHECK.faulty("deed a joy 1" + Check.times("+1", 28) + "+(^1) load 1;", 2);
    }

    private static void nesting() {
        CHECK.fine("deed a joy " + Check.times("(", 7) + "1" + Check.times(")", 7) + " load 1;", 0);
        CHECK.faulty("deed a joy " + Check.times("(", 7) + "^(1" + Check.times(")", 8) + " load 1;", 2);
        CHECK.fine("deed a joy " + Check.times("not ", 7) + "1 load 1;", 0);
        CHECK.faulty("deed a joy " + Check.times("not ", 7) + "^not 1 load 1;", 2);
        CHECK.fine("deed a joy not (not (not (not 1))) load 1;", 0);
        CHECK.faulty("deed a joy not (not (not (not ^(1)))) load 1;", 2);
        CHECK.faulty("deed a joy (not (not (not (^not 1)))) load 1;", 2);
        CHECK.fine("deed a joy not 1 and " + Check.times("(", 7) + "1" + Check.times(")", 7) + " load 1;", 0);
        CHECK.fine("deed a joy " + Check.times(Check.times("not ", 7) + "1 and ", 29) + "1 load 1;", 0);
    }

    private static void favoursAndDraw() {
        TwoInOne x = CHECK.fine(TWO + "favour a 2;favour b 0;draw 999;", 2);
        CHECK.due("half(0, 4)", x.half(0, 4), 2);
        CHECK.due("about(4)", x.about(4), 999);
        CHECK.faulty(TWO + "favour a ^3;", 4);
        CHECK.faulty(TWO + "favour ^c 1;", 5);
        CHECK.faulty(TWO + "favour a 1;favour ^a 1;", 3);
        CHECK.faulty(TWO + "favour a 0;favour ^a 1;", 3);
        CHECK.faulty(TWO + "favour ^draw 1;", 2);
        CHECK.faulty("draw ^1000;", 4);
        CHECK.faulty("draw 1;^draw 1;", 2);
        CHECK.faulty("draw 0;^draw 0;", 2);
        CHECK.faulty("draw ^a;", 2);
    }

    private static void tooMany() {
        StringBuilder eight = new StringBuilder();
        for (char c = 'a'; c < 'i'; c++) {
            eight.append("half ").append(c).append(" skill 1;");
        }
        CHECK.fine(eight.toString(), 8);
        CHECK.faulty(eight + "^half i skill 1;", 2);
        StringBuilder thirty = new StringBuilder(eight);
        int told = 0;
        for (char a = 'a'; a < 'i'; a++) {
            for (char b = 'a'; b < 'i' && told < 30; b++) {
                if (a != b) {
                    thirty.append("like ").append(a).append(" to ").append(b).append(" 1;");
                    told++;
                }
            }
        }
        CHECK.fine(thirty.toString(), 8);
        CHECK.faulty(thirty + "^like h to g 1;", 2);
        String persons = "person p of a b turn 0;person q of c d turn 0;person r of e f turn 0;person s of g h turn 0;";
        CHECK.fine(eight + persons, 8);
        CHECK.faulty(eight + persons + "^person t of a b turn 0;", 2);
        StringBuilder deeds = new StringBuilder();
        for (char c = 'a'; c < 'g'; c++) {
            deeds.append("deed ").append(c).append(" joy 1 load 1;");
        }
        CHECK.fine(deeds.toString(), 0);
        CHECK.faulty(deeds + "^deed g joy 1 load 1;", 2);
    }

    private static void firstFaultCounts() {
        CHECK.faulty("half a skill ^10", 4);
        CHECK.faulty("half a skill 1;half ^a skill 10;!", 3);
        CHECK.faulty("^x y z !", 2);
        CHECK.faulty("half ^! skill 10;", 1);
        CHECK.faulty(TWO + "person p of ^c c turn 9;", 5);
    }

    /** A line that is over too early: the ; can't stand there, and neither can the end. */
    private static void cutShort() {
        String told = TWO + "half c skill 1;";
        String[] lines = {"half d skill 1", "half d skill 1 cares 1", "like a to b 1", "person p of a b turn 0",
            "deed d joy 1 + 1 < 1 and not 1 or ( 1 * 1 ) load 1", "deed d joy 1 load 1 - 1", "deed d joy 1 load 1 and 1",
            "deed d joy 1 load not ( 1 )", "deed d joy 1 load 1 > 1", "favour a 1", "draw 1"};
        String[] whole = {"half d skill 1", "deed d joy 1 load 1", "deed d joy 1 load 1"};
        for (String line : lines) {
            String[] words = line.split(" ");
            StringBuilder part = new StringBuilder();
            for (int i = 0; i + 1 < words.length; i++) {
                part.append(i == 0 ? "" : " ").append(words[i]);
                if (!java.util.Arrays.asList(whole).contains(part.toString())) {
                    CHECK.faulty(told + part + "^;", 2);
                    CHECK.faulty(told + part + "^", 2);
                }
            }
            CHECK.fine(told + line + ";", line.startsWith("half") ? 4 : 3);
        }
    }

    /** What was on the TAPE behind its end does not count. */
    private static void bytesBehindTheEnd() {
        String[][] rows = {{"draw 1", "x"}, {"draw 1", "1"}, {"half a", "b"}, {"half", " "}};
        for (String[] row : rows) {
            TwoInOne x = new TwoInOne();
            Check.write(x, row[0] + row[1] + " skill 1;");
            x.end(row[0].length());
            CHECK.due("register() of '" + row[0] + "'", x.register(), -1);
            CHECK.due("its FAULT", x.fault(0), 2);
            CHECK.due("its place", x.fault(1), row[0].length());
        }
        TwoInOne x = new TwoInOne();
        Check.write(x, "half a skill 1;draw 1;");
        x.end(15);
        CHECK.due("register() of the first line", x.register(), 1);
        CHECK.due("the draw is not told", x.about(4), 0);
    }
}
