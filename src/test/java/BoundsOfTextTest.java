/** The bounds of a REGISTER, sentence by sentence of the document's "Terms", and of promises 1 to 5. */
public final class BoundsOfTextTest {
    private static final Check CHECK = new Check("BoundsOfTextTest");
    private static final int BLANKS = 0x20202020;
    private static final String WORDS = "half skill cares like to person of turn deed joy load favour draw or and not day again";
    private static final String TWO = "half a skill 3;half b skill 1;";
    private static final String THREE = TWO + "half c skill 2;";
    private static final String FOUR = THREE + "half d skill 2;";

    public static void main(String[] args) {
        emptyAtFirst();
        sixteenHundredBytes();
        fedTwentyAtATime();
        endsOfTheTape();
        wordsOfEightLetters();
        numbersOfFourDigits();
        signsAndBlanks();
        partedOrNot();
        asLongAsCanBe();
        noLetterBehindANumber();
        wordsThatAreNoNames();
        eightHalves();
        skillsAndCares();
        thirtyLikes();
        likings();
        fourPersons();
        twoOrThreeHalves();
        fourteenPlaces();
        placesFromNought();
        sixDeeds();
        favours();
        numberedBySort();
        drawOnce();
        ninetyUnits();
        thirtyUnitsOfOne();
        withinSixOthers();
        theLeastAtOnePlace();
        theFirstByItsPlace();
        theEnd();
        toldAhead();
        allStaysWithAFault();
        allIsNewWithoutOne();
        faultsAsked();
        namesOfLikeLetters();
        allThatCanBeTold();
        oneRegisterBehindAnother();
        CHECK.finish();
    }

    /** "A REGISTER is a text of at most 1,600 bytes (empty at first)"; "TwoInOne(): An empty REGISTER." */
    private static void emptyAtFirst() {
        TwoInOne x = new TwoInOne();
        for (int what = 0; what <= 13; what++) {
            CHECK.due("new: about(" + what + ")", x.about(what), 0);
        }
        CHECK.due("no HALF", x.half(0, 1), -1);
        CHECK.due("no PERSON", x.person(0, 1), -1);
        CHECK.due("no LIKES", x.likes(0, 1), -1);
        CHECK.due("no DEED", x.record(0, 0), TwoInOne.GAP);
        CHECK.due("an empty text", x.register(), 0);
        CHECK.due("its FAULT", x.fault(0), 0);
        CHECK.due("its place", x.fault(1), -1);
    }

    /** "at most 1,600 bytes": one of just as many is read to its last byte. */
    private static void sixteenHundredBytes() {
        String line = "half a skill 3;";
        String blanks = Check.times(" ", 1600 - line.length());
        CHECK.fine(blanks + line, 1);
        CHECK.fine(line + blanks, 1);
        CHECK.faulty(line + blanks.substring(1) + "^!", 1);
        CHECK.faulty(line + blanks.substring(4) + "half^", 2);
        CHECK.faulty(blanks + line.substring(0, 14) + "^)", 2);
    }

    /** "Twenty bytes come ... NONE, and nothing comes, if there would be more than 1,600." */
    private static void fedTwentyAtATime() {
        TwoInOne x = new TwoInOne();
        for (int i = 1; i <= 79; i++) {
            CHECK.due("feed " + i, x.feed(BLANKS, BLANKS, BLANKS, BLANKS, BLANKS), 20 * i);
        }
        CHECK.due("end(1579)", x.end(1579), 1579);
        CHECK.due("up to 1,599", x.feed(BLANKS, BLANKS, BLANKS, BLANKS, BLANKS), 1599);
        CHECK.due("there would be 1,619", x.feed(0, 0, 0, 0, 0), -1);
        CHECK.due("1,599 are there", x.about(10), 1599);
        CHECK.due("end(1580)", x.end(1580), 1580);
        CHECK.due("up to 1,600", x.feed(BLANKS, BLANKS, BLANKS, BLANKS, BLANKS), 1600);
        CHECK.due("there would be 1,620", x.feed(0, 0, 0, 0, 0), -1);
        CHECK.due("1,600 are there", x.about(10), 1600);
        CHECK.due("end(1581)", x.end(1581), 1581);
        CHECK.due("there would be 1,601", x.feed(0, 0, 0, 0, 0), -1);
        CHECK.due("1,581 are there", x.about(10), 1581);
        CHECK.due("nothing came: all are blanks", x.register(), 0);
        CHECK.due("the TAPE is empty then", x.about(10), 0);
        CHECK.due("from the beginning", x.feed(BLANKS, BLANKS, BLANKS, BLANKS, BLANKS), 20);
        highestFirst();
    }

    /** "of each number the highest first": the first and the last byte of each of the five. */
    private static void highestFirst() {
        for (int at = 0; at < 20; at++) {
            int[] words = {BLANKS, BLANKS, BLANKS, BLANKS, BLANKS};
            int shift = 24 - 8 * (at % 4);
            words[at / 4] = words[at / 4] & ~(255 << shift) | 255 << shift;
            TwoInOne x = new TwoInOne();
            x.feed(words[0], words[1], words[2], words[3], words[4]);
            CHECK.due("byte " + at + ": register()", x.register(), -1);
            CHECK.due("byte " + at + ": fault(0)", x.fault(0), 1);
            CHECK.due("byte " + at + ": fault(1)", x.fault(1), at);
        }
    }

    /** "The TAPE has its first n bytes: n; NONE, doing nothing, if it has not so many, or n is below 0." */
    private static void endsOfTheTape() {
        TwoInOne x = new TwoInOne();
        CHECK.due("empty: end(0)", x.end(0), 0);
        CHECK.due("empty: end(1)", x.end(1), -1);
        CHECK.due("empty: end(-1)", x.end(-1), -1);
        x.feed(BLANKS, BLANKS, BLANKS, BLANKS, BLANKS);
        int[] refused = {21, 1600, 1601, Integer.MAX_VALUE, -1, -20, Integer.MIN_VALUE};
        for (int n : refused) {
            CHECK.due("end(" + n + ")", x.end(n), -1);
            CHECK.due("twenty are there", x.about(10), 20);
        }
        CHECK.due("end(20)", x.end(20), 20);
        CHECK.due("end(19)", x.end(19), 19);
        CHECK.due("the last is gone", x.end(20), -1);
        CHECK.due("end(0)", x.end(0), 0);
        CHECK.due("all are gone", x.about(10), 0);
        TwoInOne full = new TwoInOne();
        for (int i = 0; i < 80; i++) {
            full.feed(BLANKS, BLANKS, BLANKS, BLANKS, BLANKS);
        }
        CHECK.due("full: end(1601)", full.end(1601), -1);
        CHECK.due("full: end(1600)", full.end(1600), 1600);
        CHECK.due("full: end(1599)", full.end(1599), 1599);
    }

    /** "words (a .. z, 8 at most)" */
    private static void wordsOfEightLetters() {
        CHECK.fine("half z skill 1;", 1);
        CHECK.fine("half abcdefgh skill 1;", 1);
        CHECK.fine("half zzzzzzzz skill 1;half zzzzzzzy skill 1;half zzzzzzz skill 1;", 3);
        CHECK.fine(TWO + "person stuvwxyz of a b turn 0;", 2);
        CHECK.fine("deed ijklmnop joy 1 load 1;", 0);
        CHECK.faulty("half ^abcdefghi skill 1;", 1);
        CHECK.faulty(TWO + "person ^stuvwxyza of a b turn 0;", 1);
        CHECK.faulty(TWO + "person p of ^aaaaaaaaa b turn 0;", 1);
        CHECK.faulty("deed ^ijklmnopq joy 1 load 1;", 1);
        CHECK.faulty("deed d joy ^abcdefghi load 1;", 1);
        CHECK.faulty("^halfhalfh a skill 1;", 1);
        CHECK.faulty("^halfhalf a skill 1;", 2);
        CHECK.faulty("half ^" + Check.times("z", 1595), 1);
        CHECK.faulty("half abcdefgh skill 1;half ^abcdefgh skill 1;", 3);
        CHECK.fine("half abcdefgh skill 1;half abcdefgi skill 1;half bbcdefgh skill 1;", 3);
    }

    /** "N (1 to 4 digits)" */
    private static void numbersOfFourDigits() {
        CHECK.due("of one", CHECK.fine("draw 7;", 0).about(4), 7);
        CHECK.due("of two", CHECK.fine("draw 07;", 0).about(4), 7);
        CHECK.due("of three", CHECK.fine("draw 123;", 0).about(4), 123);
        CHECK.due("of four", CHECK.fine("draw 0999;", 0).about(4), 999);
        CHECK.faulty("draw ^00999;", 1);
        CHECK.faulty("draw ^00000;", 1);
        CHECK.faulty("draw ^" + Check.times("9", 40) + ";", 1);
        String person = TWO + "person p of a b turn 0;";
        CHECK.due("9999", CHECK.fine(person + "deed d joy 9999 load 0000;", 2).joy(0, 0), 9999);
        CHECK.due("0", CHECK.fine(person + "deed d joy 0000 load 0;", 2).joy(0, 0), 0);
        CHECK.faulty(person + "deed d joy ^10000 load 0;", 1);
        CHECK.faulty(person + "deed d joy 1 load ^00001;", 1);
        CHECK.faulty("half a skill ^00001;", 1);
        CHECK.faulty(TWO + "person p of a b turn 0000 0001 ^00001;", 1);
    }

    /** "signs ; ( ) < > = + - * / %; blanks (32, 10)": each of the 256 bytes. */
    private static void signsAndBlanks() {
        for (int sign = 0; sign < 256; sign++) {
            char c = (char) sign;
            String text = "half a skill 1;" + c;
            if (sign == 32 || sign == 10) {
                CHECK.fine(text, 1);
                CHECK.fine("half" + c + "a" + c + c + "skill" + c + "1" + c + ";", 1);
            } else if (c >= 'a' && c <= 'z' || c >= '0' && c <= '9' || ";()<>=+-*/%".indexOf(c) >= 0) {
                CHECK.faulty(text, 2, 15);
            } else {
                CHECK.faulty(text, 1, 15);
                CHECK.faulty("half a" + c + " skill 1;", 1, 6);
                CHECK.faulty("half a skill 1" + c + ";", 1, 14);
            }
        }
    }

    /** "blanks part them or not" */
    private static void partedOrNot() {
        String formula = "1+2-3*4/5%6<7 or(8)>9 and not(load=day)";
        String parted = "1 + 2 - 3 * 4 / 5 % 6 < 7 or ( 8 ) > 9 and not ( load = day ) ";
        CHECK.due("not parted", CHECK.fine("deed d joy " + formula + "load(0);", 0).about(11), 15);
        CHECK.due("parted", CHECK.fine("deed d joy " + parted + "load ( 0 ) ;", 0).about(11), 15);
        CHECK.fine("\n\n half \n a \n\n skill \n 1 \n ; \n", 1);
        CHECK.fine("half a skill1;half b skill2 cares3;draw4;", 2);
        CHECK.fine("half a skill 1;half b skill 2;", 2);
        CHECK.fine("half a skill 1;\nhalf b skill 2;\n", 2);
    }

    /** "each is as long as can be" */
    private static void asLongAsCanBe() {
        CHECK.faulty("^halfa skill 1;", 2);
        CHECK.faulty("half askill ^1;", 2);
        CHECK.faulty("deed d joy 1 ^loadload;", 2);
        CHECK.faulty("deed d joy ^notload load 1;", 2);
        CHECK.faulty("deed d joy not ^notday load 1;", 2);
        CHECK.faulty("draw 1 ^1;", 2);
        CHECK.faulty("draw ^1111;", 4);
    }

    /** "no letter directly behind an N" */
    private static void noLetterBehindANumber() {
        CHECK.faulty("half a skill ^1cares 2;", 1);
        CHECK.faulty("half a skill ^1a;", 1);
        CHECK.faulty("half a skill ^1z", 1);
        CHECK.faulty("deed d joy ^1load 1;", 1);
        CHECK.faulty("deed d joy ^1or 1 load 1;", 1);
        CHECK.faulty("deed d joy 1 + ^0123and 1 load 1;", 1);
        CHECK.faulty("half ^1a skill 1;", 1);
        CHECK.faulty("^1half a skill 1;", 1);
        CHECK.fine("deed d joy(1)load 1;", 0);
        CHECK.fine("deed d joy 1\nload 1;", 0);
        CHECK.faulty("half a skill 1^\u0060;", 1);
        CHECK.faulty("half a skill 1^{;", 1);
    }

    /** "Words that stand for themselves here are no NAMES." */
    private static void wordsThatAreNoNames() {
        for (String word : WORDS.split(" ")) {
            CHECK.faulty("half ^" + word + " skill 1;", 2);
            CHECK.faulty(TWO + "person ^" + word + " of a b turn 0;", 2);
            CHECK.faulty("deed ^" + word + " joy 1 load 1;", 2);
            CHECK.faulty(TWO + "like ^" + word + " to b 1;", 2);
            CHECK.faulty(TWO + "like a to ^" + word + " 1;", 2);
            CHECK.faulty(TWO + "person p of ^" + word + " b turn 0;", 2);
            CHECK.faulty(TWO + "person p of a ^" + word + " turn 0;", 2);
            CHECK.faulty(TWO + "favour ^" + word + " 1;", 2);
            String more = word + "x";
            String less = word.substring(0, word.length() - 1);
            CHECK.fine("half " + more + " skill 1;deed " + more + " joy 1 load 1;", 1);
            CHECK.fine("half " + less + " skill 1;half x" + word + " skill 1;", 2);
        }
        for (String word : "e both one sum term unit line register name n in".split(" ")) {
            CHECK.fine("half " + word + " skill 1;", 1);
        }
    }

    private static String halves(int n) {
        StringBuilder text = new StringBuilder();
        for (int i = 0; i < n; i++) {
            text.append("half ").append((char) ('a' + i)).append(" skill ").append(i).append(";");
        }
        return text.toString();
    }

    /** "At most 8 HALVES"; "one of a sort too many ...: at the line's first word" */
    private static void eightHalves() {
        TwoInOne x = CHECK.fine(halves(8), 8);
        CHECK.due("about(0)", x.about(0), 8);
        CHECK.due("the last's skill", x.half(7, 1), 7);
        CHECK.due("no ninth", x.half(8, 1), -1);
        CHECK.faulty(halves(8) + "^half i skill 1;", 2);
        CHECK.faulty(halves(8) + "^half a skill 1;", 2);
        CHECK.faulty(halves(8) + "^half", 2);
        CHECK.faulty(halves(8) + " \n ^half ! 10", 2);
    }

    /** "(skill 0 .. 9; cares 0 .. 9, 0 if not told)" */
    private static void skillsAndCares() {
        for (int n = 0; n <= 9; n++) {
            TwoInOne x = CHECK.fine("half a skill " + n + " cares " + (9 - n) + ";", 1);
            CHECK.due("skill", x.half(0, 1), n);
            CHECK.due("cares", x.half(0, 2), 9 - n);
        }
        CHECK.due("cares not told", CHECK.fine("half a skill 9;", 1).half(0, 2), 0);
        CHECK.due("not those of another one", CHECK.fine("half a skill 9 cares 8;half b skill 1;", 2).half(1, 2), 0);
        CHECK.faulty("half a skill ^10;", 4);
        CHECK.faulty("half a skill ^9999;", 4);
        CHECK.faulty("half a skill 9 cares ^10;", 4);
        CHECK.faulty("half a skill 0 cares ^9999;", 4);
        CHECK.faulty("half a skill ^- 1;", 2);
        CHECK.faulty("half a ^cares 1 skill 1;", 2);
    }

    private static String likes(int n) {
        StringBuilder text = new StringBuilder();
        for (int i = 0; i < n; i++) {
            char a = (char) ('a' + i / 7);
            char b = (char) ('a' + (i / 7 + 1 + i % 7) % 8);
            text.append("like ").append(a).append(" to ").append(b).append(" ").append(i % 10).append(";");
        }
        return text.toString();
    }

    /** "30 LIKES (... each two in this order once ...)" */
    private static void thirtyLikes() {
        CHECK.due("29", CHECK.fine(halves(8) + likes(29), 8).about(13), 29);
        TwoInOne x = CHECK.fine(halves(8) + likes(30), 8);
        CHECK.due("30", x.about(13), 30);
        CHECK.due("the thirtieth", x.likes(4, 6), 9);
        CHECK.due("not told", x.likes(4, 7), 0);
        CHECK.faulty(halves(8) + likes(30) + "^like h to g 1;", 2);
        CHECK.faulty(halves(8) + likes(30) + "^like a to b 1;", 2);
        CHECK.faulty(halves(8) + likes(30) + "^like x to x 10;", 2);
    }

    /** "(of a HALF told ahead to another one, 0 .. 9, each two in this order once; 0 if not told)" */
    private static void likings() {
        for (int n = 0; n <= 9; n++) {
            TwoInOne x = CHECK.fine(TWO + "like b to a " + n + ";", 2);
            CHECK.due("likes(1, 0)", x.likes(1, 0), n);
            CHECK.due("likes(0, 1)", x.likes(0, 1), 0);
        }
        CHECK.faulty(TWO + "like b to a ^10;", 4);
        CHECK.faulty(TWO + "like b to a ^9999;", 4);
        CHECK.faulty(TWO + "like b to ^b 1;", 3);
        CHECK.faulty(TWO + "like b to ^b 10;", 3);
        CHECK.fine(TWO + "like b to a 1;like a to b 1;", 2);
        CHECK.faulty(TWO + "like b to a 1;like a to b 1;like b to ^a 1;", 3);
        CHECK.faulty(TWO + "like b to a 0;like b to ^a 0;", 3);
        CHECK.due("told as 0 counts", CHECK.fine(TWO + "like b to a 0;", 2).about(13), 1);
    }

    /** "4 PERSONS"; "each HALF of one PERSON" */
    private static void fourPersons() {
        String persons = "person p of a b turn 0;person q of c d turn 0;person r of e f turn 0;person s of h g turn 0;";
        TwoInOne x = CHECK.fine(halves(8) + persons, 8);
        CHECK.due("about(1)", x.about(1), 4);
        CHECK.due("the fourth", x.in(3, 0), 7);
        CHECK.due("no fifth", x.person(4, 0), -1);
        CHECK.faulty(halves(8) + persons + "^person t of a b turn 0;", 2);
        CHECK.faulty(halves(8) + persons + "^person p of a b turn 0;", 2);
        CHECK.faulty(halves(8) + persons + "^person", 2);
        CHECK.faulty(FOUR + "person p of a b turn 0;person q of ^a c turn 0;", 3);
        CHECK.faulty(FOUR + "person p of a b turn 0;person q of c ^b turn 0;", 3);
        CHECK.faulty(FOUR + "person p of a b turn 0;person q of c d ^a turn 0;", 3);
        CHECK.faulty(FOUR + "person p of a b turn 0;person ^p of c d turn 0;", 3);
    }

    /** "(of two or three HALVES told ahead ...)" */
    private static void twoOrThreeHalves() {
        CHECK.faulty(FOUR + "person p of ^turn 0;", 2);
        CHECK.faulty(FOUR + "person p of a ^turn 0;", 2);
        CHECK.due("two", CHECK.fine(FOUR + "person p of a b turn 0;", 4).person(0, 2), 2);
        CHECK.due("three", CHECK.fine(FOUR + "person p of a b c turn 0;", 4).person(0, 2), 3);
        CHECK.faulty(FOUR + "person p of a b c ^d turn 0;", 2);
        CHECK.faulty(FOUR + "person p of a b c ^a turn 0;", 2);
        CHECK.faulty(FOUR + "person p of a b c ^x turn 0;", 2);
        CHECK.faulty(FOUR + "person p of a ^a turn 0;", 3);
        CHECK.faulty(FOUR + "person p of a b ^a turn 0;", 3);
    }

    /** "turn: 1 to 14 of their places"; "a 15th of a turn ...: at its first TOKEN" */
    private static void fourteenPlaces() {
        CHECK.faulty(TWO + "person p of a b turn ^;", 2);
        for (int n = 1; n <= 14; n++) {
            TwoInOne x = CHECK.fine(TWO + "person p of a b turn" + Check.times(" 0", n - 1) + " 1;", 2);
            CHECK.due("places", x.person(0, 1), n);
            CHECK.due("the last", x.in(0, n - 1), 1);
            CHECK.due("then the first", x.in(0, n), n == 1 ? 1 : 0);
        }
        CHECK.faulty(TWO + "person p of a b turn" + Check.times(" 0", 14) + " ^0;", 2);
        CHECK.faulty(TWO + "person p of a b turn" + Check.times(" 0", 14) + " ^2;", 2);
        CHECK.faulty(TWO + "person p of a b turn" + Check.times(" 0", 14) + " ^00000;", 1);
        CHECK.faulty(TWO + "person p of a b turn" + Check.times(" 0", 13) + " ^2 0;", 4);
    }

    /** "of their places from 0 on" */
    private static void placesFromNought() {
        TwoInOne x = CHECK.fine(FOUR + "person p of d b turn 0 1;", 4);
        CHECK.due("place 0", x.in(0, 0), 3);
        CHECK.due("place 1", x.in(0, 1), 1);
        CHECK.faulty(FOUR + "person p of a b turn ^2;", 4);
        CHECK.faulty(FOUR + "person p of a b turn 0 1 ^9999;", 4);
        TwoInOne three = CHECK.fine(FOUR + "person p of d b a turn 2 1 0;", 4);
        CHECK.due("place 2", three.in(0, 0), 0);
        CHECK.faulty(FOUR + "person p of a b c turn 2 ^3;", 4);
    }

    private static String deeds(int n) {
        StringBuilder text = new StringBuilder();
        for (int i = 0; i < n; i++) {
            text.append("deed ").append((char) ('a' + i)).append(" joy ").append(i).append(" load 0;");
        }
        return text.toString();
    }

    /** "6 DEEDS" */
    private static void sixDeeds() {
        TwoInOne x = CHECK.fine(TWO + "person p of a b turn 0;" + deeds(6), 2);
        CHECK.due("about(2)", x.about(2), 6);
        CHECK.due("the sixth", x.joy(0, 5), 5);
        CHECK.due("no seventh", x.joy(0, 6), TwoInOne.GAP);
        CHECK.faulty(deeds(6) + "^deed g joy 0 load 0;", 2);
        CHECK.faulty(deeds(6) + "^deed a joy 0 load 0;", 2);
        CHECK.faulty(deeds(6) + "^deed", 2);
        CHECK.faulty(deeds(5) + "deed ^e joy 0 load 0;", 3);
    }

    /** "favours (of a HALF told ahead, once each; 0 .. 2; 0)" */
    private static void favours() {
        for (int n = 0; n <= 2; n++) {
            CHECK.due("favours", CHECK.fine(TWO + "favour b " + n + ";", 2).half(1, 4), n);
        }
        CHECK.due("not told", CHECK.fine(TWO + "favour b 2;", 2).half(0, 4), 0);
        CHECK.faulty(TWO + "favour b ^3;", 4);
        CHECK.faulty(TWO + "favour b ^9999;", 4);
        CHECK.faulty(TWO + "favour b 1;favour ^b 1;", 3);
        CHECK.faulty(TWO + "favour b 0;favour a 0;favour ^b 3;", 3);
        StringBuilder all = new StringBuilder(halves(8));
        for (char c = 'a'; c <= 'h'; c++) {
            all.append("favour ").append(c).append(" 2;");
        }
        CHECK.due("all of them", CHECK.fine(all.toString(), 8).half(7, 4), 2);
    }

    /** "numbered as told, each sort by itself"; "a NAME told already (of its sort)" */
    private static void numberedBySort() {
        TwoInOne x = CHECK.fine("deed a joy 5 load 0;half b skill 1;deed b joy 6 load 0;half a skill 2;person a of a b turn 0;"
            + "half c skill 3;half d skill 4;person b of d c turn 0;", 4);
        CHECK.due("b is the first HALF", x.half(0, 1), 1);
        CHECK.due("d is the last", x.half(3, 1), 4);
        CHECK.due("a is the first PERSON: HALF a is IN", x.in(0, 0), 1);
        CHECK.due("b is the second: HALF d is IN", x.in(1, 0), 3);
        CHECK.due("a is the first DEED", x.joy(0, 0), 5);
        CHECK.due("b is the second", x.joy(0, 1), 6);
        CHECK.faulty("half x skill 1;half ^x skill 1;", 3);
        CHECK.faulty("deed x joy 1 load 1;deed ^x joy 1 load 1;", 3);
    }

    /** "draw (0 .. 999; 0) once" */
    private static void drawOnce() {
        CHECK.due("not told", CHECK.fine("", 0).about(4), 0);
        CHECK.due("0", CHECK.fine("draw 0;", 0).about(4), 0);
        CHECK.due("999", CHECK.fine("draw 999;", 0).about(4), 999);
        CHECK.faulty("draw ^1000;", 4);
        CHECK.faulty("draw ^9999;", 4);
        CHECK.faulty("draw 0;^draw 0;", 2);
        CHECK.faulty("draw 1;half a skill 1; ^draw", 2);
    }

    private static String sum(int units) {
        return "1" + Check.times("+1", units - 1);
    }

    /** "90 units in all"; "a unit too many ...: at its first TOKEN" */
    private static void ninetyUnits() {
        String sixty = "deed a joy " + sum(30) + " load " + sum(30) + ";";
        CHECK.due("89", CHECK.fine(sixty + "deed b joy " + sum(28) + " load 1;", 0).about(11), 89);
        CHECK.due("90", CHECK.fine(sixty + "deed b joy " + sum(29) + " load 1;", 0).about(11), 90);
        CHECK.due("90", CHECK.fine(sixty + "deed b joy (" + sum(28) + ") load 1;", 0).about(11), 90);
        CHECK.faulty(sixty + "deed b joy " + sum(29) + " load 1+^1;", 2);
        CHECK.faulty(sixty + "deed b joy " + sum(29) + " load 1 or not ^1;", 2);
        CHECK.faulty(sixty + "deed b joy " + sum(28) + " load 1;deed c joy 1 load ^1;", 2);
        CHECK.faulty(sixty + "deed b joy " + sum(30) + " load ^1;", 2);
        CHECK.faulty(sixty + "deed b joy " + sum(30) + " load ^(1);", 2);
        CHECK.faulty(sixty + "deed b joy " + sum(29) + " load (^1);", 2);
        CHECK.faulty(sixty + "deed b joy " + sum(29) + " load 1;deed c joy ^day load 1;", 2);
        CHECK.faulty(sixty + "deed b joy " + sum(30) + " load ^!", 1);
        TwoInOne x = Check.of(sixty + "deed b joy " + sum(29) + " load 1;");
        Check.write(x, "deed a joy 1 load 1;");
        x.register();
        CHECK.due("counted anew", x.about(11), 2);
    }

    /** "30 in one e" */
    private static void thirtyUnitsOfOne() {
        CHECK.due("29", CHECK.fine("deed a joy " + sum(29) + " load 1;", 0).about(11), 30);
        CHECK.due("30", CHECK.fine("deed a joy " + sum(30) + " load 1;", 0).about(11), 31);
        CHECK.due("30, and 30", CHECK.fine("deed a joy " + sum(30) + " load " + sum(30) + ";", 0).about(11), 60);
        CHECK.faulty("deed a joy " + sum(30) + "+^1 load 1;", 2);
        CHECK.faulty("deed a joy " + sum(30) + "*^1 load 1;", 2);
        CHECK.faulty("deed a joy " + sum(30) + " and ^1 load 1;", 2);
        CHECK.faulty("deed a joy " + sum(30) + " or ^1 load 1;", 2);
        CHECK.faulty("deed a joy " + sum(30) + " < ^1 load 1;", 2);
        CHECK.faulty("deed a joy " + sum(30) + " or not ^1 load 1;", 2);
        CHECK.faulty("deed a joy 1 load " + sum(30) + "-^(1);", 2);
        CHECK.fine("deed a joy (" + sum(29) + ") load 1;", 0);
        CHECK.faulty("deed a joy (" + sum(29) + "+^1) load 1;", 2);
        CHECK.faulty("deed a joy (" + sum(15) + ")*(" + sum(13) + "+^1) load 1;", 2);
        CHECK.fine("deed a joy (" + sum(15) + ")*(" + sum(13) + ") load 1;", 0);
        CHECK.faulty("deed a joy (" + sum(15) + ")*(" + sum(13) + ")-^day load 1;", 2);
        for (String joins : new String[] {"+", "-", "*", "/", "%", " and ", " or "}) {
            CHECK.fine("deed a joy 1 load day" + Check.times(joins + "day", 29) + ";", 0);
            CHECK.faulty("deed a joy 1 load day" + Check.times(joins + "day", 29) + joins + "^day;", 2);
        }
    }

    private static String nested(String opening, int times) {
        String closing = opening.endsWith("(") ? ")" : "";
        return Check.times(opening, times) + "1" + Check.times(closing, times);
    }

    /** "(a unit ( e ), or a one behind not, within 6 others at most)"; "what is within 7 others: at its first TOKEN, or the not" */
    private static void withinSixOthers() {
        CHECK.due("seven units ( e )", CHECK.fine("deed a joy " + nested("(", 7) + " load 1;", 0).about(11), 9);
        CHECK.faulty("deed a joy (((((((^(1)))))))) load 1;", 2);
        CHECK.fine("deed a joy " + nested("not ", 7) + " load " + nested("not ", 7) + ";", 0);
        CHECK.faulty("deed a joy not not not not not not not ^not 1 load 1;", 2);
        CHECK.fine("deed a joy not not not not not not not 1 + 1 load 1;", 0);
        CHECK.fine("deed a joy " + nested("not (", 3) + " load 1;", 0);
        CHECK.fine("deed a joy not (not (not (not 1))) load 1;", 0);
        CHECK.faulty("deed a joy not (not (not (not ^(1)))) load 1;", 2);
        CHECK.faulty("deed a joy not (not (not (not ^not 1))) load 1;", 2);
        CHECK.fine("deed a joy ((((((not 1)))))) load 1;", 0);
        CHECK.faulty("deed a joy (((((((^not 1))))))) load 1;", 2);
        CHECK.fine("deed a joy not not not not not not (1) load 1;", 0);
        CHECK.faulty("deed a joy not not not not not not not ^(1) load 1;", 2);
        CHECK.fine("deed a joy " + nested("(", 7) + " + " + nested("(", 7) + " load " + nested("(", 7) + ";", 0);
        CHECK.fine("deed a joy " + nested("not ", 7) + " and " + nested("not ", 7) + " load 1;", 0);
        CHECK.faulty("deed a joy " + nested("(", 7) + " load 1 or (((((((1 * ^(1)))))))) ;", 2);
        CHECK.faulty("deed a joy (((((((^!", 1);
    }

    /** "at one place the least" */
    private static void theLeastAtOnePlace() {
        CHECK.faulty("half a skill 3 ^!", 1);
        CHECK.faulty("^!", 1);
        CHECK.faulty("half ^!", 1);
        CHECK.faulty("deed d joy ^!", 1);
        CHECK.faulty("deed d joy 1 load 1 + ^12345;", 1);
        CHECK.faulty("deed d joy " + sum(30) + "+^12345 load 1;", 1);
        CHECK.faulty("deed d joy not not not not not not not ^! load 1;", 1);
        CHECK.faulty(TWO + "person p of a b turn" + Check.times(" 0", 14) + " ^3;", 2);
        CHECK.faulty(TWO + "person p of a b turn" + Check.times(" 0", 14) + " ^3x;", 1);
        CHECK.faulty(TWO + "like a to ^abcdefghi 1;", 1);
        CHECK.faulty(THREE + "person p of a b c ^a turn 0;", 2);
        CHECK.faulty(THREE + "person p of a b c ^z turn 0;", 2);
        CHECK.faulty("half a skill ^99999;", 1);
        CHECK.faulty("draw 1;^draw 1000;", 2);
    }

    /** "FAULTS, the first by its place (bytes from 0 ...)" */
    private static void theFirstByItsPlace() {
        CHECK.faulty("^x", 2);
        CHECK.faulty("^1", 2);
        CHECK.faulty("^1;", 2);
        CHECK.faulty("^;", 2);
        CHECK.faulty(" ^x", 2);
        CHECK.faulty("half a skill ^10!", 4);
        CHECK.faulty("half a skill ^10;half a skill 1;", 4);
        CHECK.faulty(TWO + "half ^a skill 10 !", 3);
        CHECK.faulty(TWO + "like ^x to x 10", 5);
        CHECK.faulty(TWO + "like a to ^a 10", 3);
        CHECK.faulty(TWO + "like a to b ^10", 4);
        CHECK.faulty(TWO + "favour ^x 3", 5);
        CHECK.faulty(TWO + "person p of ^x x turn 2", 5);
        CHECK.faulty(TWO + "person p of a b turn ^2 !", 4);
        CHECK.faulty(TWO + "deed d joy 1 ^joy 1 !", 2);
        CHECK.faulty(TWO + "deed d ^! joy", 1);
    }

    /** "(bytes from 0; the end: the text's length)" */
    private static void theEnd() {
        CHECK.faulty("half^", 2);
        CHECK.faulty("half ^", 2);
        CHECK.faulty("half \n \n ^", 2);
        CHECK.faulty("half a skill 1^", 2);
        CHECK.faulty("half a skill 1; draw 1 ^", 2);
        CHECK.faulty("deed d joy (1 + 2^", 2);
        CHECK.faulty("deed d joy not^", 2);
        CHECK.faulty(TWO + "person p of a^", 2);
        CHECK.faulty(TWO + "person p of a b turn 0 1 0^", 2);
        CHECK.fine("half a skill 1; \n ", 1);
    }

    /** "a HALF told ahead"; "5 a NAME that no HALF has" */
    private static void toldAhead() {
        CHECK.faulty("like ^a to b 1;half a skill 1;half b skill 1;", 5);
        CHECK.faulty("half a skill 1;like a to ^b 1;half b skill 1;", 5);
        CHECK.faulty("half a skill 1;person p of a ^b turn 0;half b skill 1;", 5);
        CHECK.faulty("half a skill 1;person p of ^b a turn 0;half b skill 1;", 5);
        CHECK.faulty(TWO + "person p of a b ^c turn 0;half c skill 1;", 5);
        CHECK.faulty("favour ^a 1;half a skill 1;", 5);
        CHECK.faulty(TWO + "person p of a b turn 0;deed d joy 1 load 1;favour ^p 1;", 5);
        CHECK.faulty(TWO + "person p of a b turn 0;deed d joy 1 load 1;like a to ^d 1;", 5);
        TwoInOne x = Check.of(THREE);
        Check.write(x, "half a skill 1;favour c 1;");
        CHECK.due("a HALF of the REGISTER before", x.register(), -1);
        CHECK.due("its FAULT", x.fault(0), 5);
        CHECK.due("its place", x.fault(1), 22);
    }

    private static TwoInOne used() {
        TwoInOne x = Check.of(TWO + "person p of a b turn 0 1;deed d joy 1 load 2;draw 5;like a to b 1;favour b 2;");
        x.days(2);
        x.die(0);
        x.prank();
        x.undo();
        x.image(0);
        x.image(1);
        x.image(2);
        x.next(0);
        x.sight(0, 0);
        x.later(7);
        x.together(0, 3);
        return x;
    }

    /** "NONE: a FAULT (all stays)." */
    private static void allStaysWithAFault() {
        TwoInOne x = used();
        Check.write(x, "half z skill 9 cares 9;draw 10000;");
        CHECK.due("register() with a FAULT", x.register(), -1);
        int[] stays = {2, 1, 1, 2, 5, 2, 1, 1, 1, 7, 34, 2, 3, 1};
        for (int what = 0; what < stays.length; what++) {
            CHECK.due("about(" + what + ") stays", x.about(what), stays[what]);
        }
        CHECK.due("skill", x.half(0, 1), 3);
        CHECK.due("cares", x.half(0, 2), 0);
        CHECK.due("dead", x.half(0, 3), 0);
        CHECK.due("favours", x.half(1, 4), 2);
        CHECK.due("likes", x.likes(0, 1), 1);
        CHECK.due("LOAD", x.person(0, 0), 2);
        CHECK.due("IN", x.in(0, 0), -1);
        CHECK.due("JOY", x.record(1, -1), 1);
        CHECK.due("what lies there", x.lies(1), 0);
        CHECK.due("the SIGHT", x.alibis(0, 0), 2);
        CHECK.due("the BOX", x.back(1), 2);
        CHECK.due("the FAULT", x.fault(0), 1);
        CHECK.due("the same again", x.register(), -1);
        CHECK.due("without its end", x.end(23), 23);
        CHECK.due("it is fine", x.register(), 1);
    }

    /** "(DAY 0, all as told, no ACTS are kept, no BARGAIN, no SIGHTS are, nothing lies there, BOXES are empty then; the TIME stays)" */
    private static void allIsNewWithoutOne() {
        TwoInOne x = used();
        Check.write(x, TWO + "person p of b a turn 0 1;deed d joy 1 load 2;draw 6;");
        CHECK.due("register()", x.register(), 2);
        int[] then = {2, 1, 1, 0, 6, 0, 0, 0, 0, 7, 0, 2, 0, 0};
        for (int what = 0; what < then.length; what++) {
            CHECK.due("about(" + what + ") then", x.about(what), then[what]);
        }
        CHECK.due("alive", x.half(0, 3), 1);
        CHECK.due("favours", x.half(1, 4), 0);
        CHECK.due("likes", x.likes(0, 1), 0);
        CHECK.due("LOAD", x.person(0, 0), 0);
        CHECK.due("IN", x.in(0, 0), 1);
        CHECK.due("JOY", x.record(1, -1), 0);
        CHECK.due("RECORDS", x.record(0, 0) + x.record(1, 0), 0);
        CHECK.due("GUILT", x.guilt(0, 0, 0), 0);
        CHECK.due("undo()", x.undo(), false);
        CHECK.due("redo()", x.redo(), false);
        CHECK.due("lies(0)", x.lies(0), -1);
        CHECK.due("breaks", x.breaks(0, 1), -2);
        CHECK.due("untell(0)", x.untell(0), false);
        for (int box = 0; box < 3; box++) {
            CHECK.due("back(" + box + ")", x.back(box), -1);
        }
        CHECK.due("the same text once more: nothing is left on the TAPE", x.register(), 0);
        CHECK.due("and the TIME stays", x.about(9), 7);
    }

    /** "Of the latest register() what 0: its FAULT (0), 1: its place (NONE). NONE for another what." */
    private static void faultsAsked() {
        TwoInOne x = new TwoInOne();
        CHECK.due("before any: its FAULT", x.fault(0), 0);
        CHECK.due("before any: its place", x.fault(1), -1);
        Check.write(x, " !");
        x.register();
        CHECK.due("its FAULT", x.fault(0), 1);
        CHECK.due("its place", x.fault(1), 1);
        for (int what : new int[] {-1, 2, 3, Integer.MAX_VALUE, Integer.MIN_VALUE}) {
            CHECK.due("fault(" + what + ")", x.fault(what), -1);
        }
        x.end(0);
        CHECK.due("only register() changes it: its FAULT", x.fault(0), 1);
        x.register();
        CHECK.due("of the latest: its FAULT", x.fault(0), 0);
        CHECK.due("of the latest: its place", x.fault(1), -1);
    }

    /** "a NAME told already": one that is longer, or has its letters in another order, is another one. */
    private static void namesOfLikeLetters() {
        TwoInOne x = CHECK.fine("half a skill 1;half aa skill 2;half aaaaaaa skill 3;half aaaaaaaa skill 4;half b skill 5;"
            + "half bb skill 6;half ab skill 7;half ba skill 8;favour aaaaaaaa 1;favour ba 2;like ab to a 5;", 8);
        CHECK.due("aaaaaaaa", x.half(3, 4), 1);
        CHECK.due("aaaaaaa", x.half(2, 4), 0);
        CHECK.due("ba", x.half(7, 4), 2);
        CHECK.due("ab", x.likes(6, 0), 5);
        CHECK.faulty("half aa skill 1;favour ^a 1;", 5);
        CHECK.faulty("half a skill 1;favour ^aa 1;", 5);
        CHECK.faulty("half ab skill 1;favour ^ba 1;", 5);
        CHECK.faulty("half az skill 1;favour ^b 1;", 5);
        CHECK.faulty("half aaaaaaaa skill 1;favour ^aaaaaaab 1;", 5);
        CHECK.faulty("half zzzzzzzz skill 1;half ^zzzzzzzz skill 1;", 3);
    }

    private static String full() {
        StringBuilder text = new StringBuilder();
        for (char c = 'a'; c <= 'h'; c++) {
            text.append("half ").append(c).append(" skill ").append(c - 'a' + 2).append(" cares 9;favour ").append(c).append(" 2;");
        }
        text.append(likes(30));
        for (int person = 0; person < 4; person++) {
            char first = (char) ('a' + 2 * person);
            text.append("person ").append((char) ('p' + person)).append(" of ").append(first).append(' ').append((char) (first + 1));
            text.append(" turn").append(Check.times(" 0", 13)).append(" 1;");
        }
        for (char c = 'a'; c <= 'f'; c++) {
            text.append("deed ").append(c).append(" joy ").append(sum(c == 'f' ? 13 : 14)).append(" load ").append(c == 'f' ? "1+1" : "1").append(";");
        }
        return text.append("draw 999;").toString();
    }

    /** All bounds at once. */
    private static void allThatCanBeTold() {
        TwoInOne x = CHECK.fine(full(), 8);
        int[] due = {8, 4, 6, 0, 999, 0, 0, 0, 0, 0, 0, 90, 0, 30};
        for (int what = 0; what < due.length; what++) {
            CHECK.due("full: about(" + what + ")", x.about(what), due[what]);
        }
        int[] last = {3, 9, 9, 1, 2};
        for (int what = 0; what < last.length; what++) {
            CHECK.due("full: half(7, " + what + ")", x.half(7, what), last[what]);
        }
        CHECK.due("full: in(3, 13)", x.in(3, 13), 7);
        CHECK.due("full: in(3, 12)", x.in(3, 12), 6);
        CHECK.due("full: joy(3, 4)", x.joy(3, 4), 14);
        CHECK.due("full: joy(3, 5)", x.joy(3, 5), 13);
        String[] more = {"half i skill 1;", "like h to a 1;", "person t of a b turn 0;", "deed g joy 1 load 1;", "draw 1;"};
        for (String line : more) {
            CHECK.faulty(full() + "^" + line, 2);
        }
        CHECK.faulty(full() + "favour ^h 1;", 3);
    }

    /** "(... all as told ...)": nothing of a REGISTER before is left, however often. */
    private static void oneRegisterBehindAnother() {
        TwoInOne x = new TwoInOne();
        for (int i = 0; i < 5; i++) {
            Check.write(x, full());
            CHECK.due("full, once more", x.register(), 8);
            CHECK.due("its units", x.about(11), 90);
        }
        Check.write(x, THREE + "person p of a b turn 1;deed d joy 7 load 1;");
        CHECK.due("then a small one", x.register(), 3);
        CHECK.due("its cares", x.half(0, 2), 0);
        CHECK.due("its favours", x.half(0, 4), 0);
        CHECK.due("its likes", x.likes(0, 1), 0);
        CHECK.due("of no PERSON", x.half(2, 0), -1);
        CHECK.due("its places", x.person(0, 1), 1);
        CHECK.due("who is IN", x.in(0, 13), 1);
        CHECK.due("JOY", x.joy(0, 0), 7);
        CHECK.due("its SEED", x.about(4), 0);
        CHECK.due("its units", x.about(11), 2);
    }
}
