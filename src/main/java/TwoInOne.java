import java.util.Arrays;

/** Halves who are one person by turns of days; ../shared/DOC.md says what each call answers. */
public final class TwoInOne {
    public static final int NONE = -1;
    public static final int GAP = -1000000000;

    /** What is answered where NONE has a meaning of its own. */
    private static final int WRONG = -2;

    private static final int MOST_BYTES = 1600;
    private static final int FED_BYTES = 20;
    private static final int MOST_HALVES = 8;
    private static final int MOST_LIKES = 30;
    private static final int MOST_PERSONS = 4;
    private static final int MOST_MEMBERS = 3;
    private static final int MOST_PLACES = 14;
    private static final int MOST_DEEDS = 6;
    private static final int MOST_UNITS = 90;
    private static final int MOST_UNITS_OF_ONE = 30;
    /** One within six others, and these six. */
    private static final int MOST_NESTED = 7;
    /** Units and what joins them, and as many nots as 1,600 bytes can hold. */
    private static final int MOST_CODE = 640;
    private static final int MOST_CARES = 9;
    private static final int MOST_LIKING = 9;
    private static final int MOST_SKILL = 9;
    private static final int MOST_FAVOURED = 2;
    private static final int MOST_SEED = 999;
    private static final int MOST_LOAD = 99;
    private static final int LAST_DAY = 900;
    private static final int LAST_SEEN_AHEAD = 999;
    private static final int MOST_DAYS_AT_ONCE = 60;
    private static final int MOST_DAYS_ASKED = 20;
    private static final int MOST_DAYS_OF_VOTES = 99;
    private static final int MOST_ACTS = 40;
    private static final int BOXES = 3;
    private static final int MOST_TOLD_IN_BARGAIN = 14;
    private static final int MOST_SIGHTS = 30;
    private static final int LAST_SIGHT_DAY = 99;
    private static final int MOST_TIME = 100000;
    private static final int MOST_LATER = 1000;
    private static final int MOST_STRANGER_DAYS = 9;

    /** TOKENS: a sign is its own byte, a word that stands for itself is numbered by its place in WORDS. */
    private static final int END = 0;
    private static final int BAD = 1;
    private static final int NAME = 2;
    private static final int NUMBER = 3;
    private static final int FIRST_WORD = 200;
    private static final int WORD_SLOT = 6;
    private static final String WORDS =
        "half  skill cares like  to    personof    turn  deed  joy   load  favourdraw  or    and   not   day   again ";
    private static final int HALF = 200;
    private static final int SKILL = 201;
    private static final int CARES = 202;
    private static final int LIKE = 203;
    private static final int TO = 204;
    private static final int PERSON = 205;
    private static final int OF = 206;
    private static final int TURN = 207;
    private static final int DEED = 208;
    private static final int JOY = 209;
    private static final int LOAD = 210;
    private static final int FAVOUR = 211;
    private static final int DRAW = 212;
    private static final int OR = 213;
    private static final int AND = 214;
    private static final int NOT = 215;
    private static final int DAY = 216;
    private static final int AGAIN = 217;

    private static final int FAULT_NO_TOKEN = 1;
    private static final int FAULT_MISPLACED = 2;
    private static final int FAULT_TOLD_ALREADY = 3;
    private static final int FAULT_NUMBER = 4;
    private static final int FAULT_NO_HALF = 5;

    private final int[] tape = new int[MOST_BYTES];
    private int tapeLength = 0;
    private final Told told = new Told();
    private final Reader reader = new Reader(tape);
    private final State now = new State();
    private final History history = new History();
    private final Row lying = new Row(MOST_DAYS_ASKED);
    private final Course course = new Course(told, now);
    private final Game game = new Game(told, now, course);
    private final Bargain bargain = new Bargain(told, now, course);
    private final Pairings pairings = new Pairings(told, now);
    private final Votes votes = new Votes(told, now, course);
    private final Sights sights = new Sights(told);

    public TwoInOne() {
        now.begin(told);
        history.restart(now);
    }

    public int feed(int a, int b, int c, int d, int e) {
        if (tapeLength + FED_BYTES > MOST_BYTES) {
            return NONE;
        }
        put(a);
        put(b);
        put(c);
        put(d);
        put(e);
        return tapeLength;
    }

    private void put(int number) {
        for (int shift = 24; shift >= 0; shift -= 8) {
            if (tapeLength >= 0 && tapeLength < MOST_BYTES) {
                tape[tapeLength] = (number >>> shift) & 255;
                tapeLength++;
            }
        }
    }

    public int end(int n) {
        if (n < 0 || n > tapeLength) {
            return NONE;
        }
        tapeLength = n;
        return n;
    }

    public int register() {
        if (!reader.read(tapeLength)) {
            return NONE;
        }
        told.copyFrom(reader.draft);
        tapeLength = 0;
        now.begin(told);
        history.restart(now);
        history.emptyBoxes();
        bargain.row.clear();
        sights.clear();
        lying.clear();
        return told.halves;
    }

    public int fault(int what) {
        switch (what) {
            case 0: return reader.fault;
            case 1: return reader.place;
            default: return NONE;
        }
    }

    public int half(int half, int what) {
        if (!told.hasHalf(half)) {
            return NONE;
        }
        switch (what) {
            case 0: return told.personOf[half];
            case 1: return told.skill[half];
            case 2: return told.cares[half];
            case 3: return now.alive[half];
            case 4: return told.favoured(half);
            default: return NONE;
        }
    }

    public int likes(int half, int other) {
        if (!told.hasHalf(half) || !told.hasHalf(other) || half == other) {
            return NONE;
        }
        return told.liked(half, other);
    }

    public int person(int person, int what) {
        if (!told.hasPerson(person)) {
            return NONE;
        }
        switch (what) {
            case 0: return now.load[person];
            case 1: return told.places[person];
            case 2: return told.members[person];
            default: return NONE;
        }
    }

    public int in(int person, int day) {
        if (!told.hasPerson(person) || day < 0 || day > LAST_SEEN_AHEAD) {
            return WRONG;
        }
        return course.whoIn(person, day);
    }

    public int chooses(int person, int cares) {
        if (!told.hasPerson(person) || cares < NONE || cares > MOST_CARES) {
            return WRONG;
        }
        int half = course.whoIn(person, now.day);
        if (half == NONE) {
            return NONE;
        }
        int ahead = cares == NONE ? told.cares[half] : cares;
        return course.chosen(person, now.day, now.load[person], ahead);
    }

    public int joy(int person, int deed) {
        if (!canDo(person, deed)) {
            return GAP;
        }
        course.stand(person, now.day);
        return course.joyOf(deed, now.load[person]);
    }

    private boolean canDo(int person, int deed) {
        return told.hasPerson(person) && told.hasDeed(deed) && course.whoIn(person, now.day) != NONE;
    }

    public int record(int half, int deed) {
        if (!told.hasHalf(half)) {
            return GAP;
        }
        if (deed == NONE) {
            return now.joys[half];
        }
        return told.hasDeed(deed) ? now.howOften(half, deed) : GAP;
    }

    public int guilt(int deed, int half, int part) {
        if (!told.hasDeed(deed) || !told.hasHalf(half) || part < 0 || part > 1) {
            return NONE;
        }
        int upper = now.howOften(half, deed);
        int lower = 0;
        for (int other = 0; other < told.halves; other++) {
            lower += now.howOften(other, deed);
        }
        int divisor = commonDivisor(upper, lower);
        if (divisor == 0) {
            return part;
        }
        return part == 0 ? upper / divisor : lower / divisor;
    }

    /** Of two numbers below 4,000, which thirty steps always suffice for. */
    private static int commonDivisor(int a, int b) {
        int greater = a;
        int less = b;
        for (int i = 0; i < 64 && less != 0; i++) {
            int rest = greater % less;
            greater = less;
            less = rest;
        }
        return greater;
    }

    public int days(int n) {
        if (n < 0 || n > MOST_DAYS_AT_ONCE || now.day + n > LAST_DAY) {
            return NONE;
        }
        for (int i = 0; i < n; i++) {
            course.passDay(NONE, NONE);
        }
        history.keepAct(now);
        return now.day;
    }

    public int decree(int person, int deed) {
        if (!canDo(person, deed) || now.day >= LAST_DAY) {
            return GAP;
        }
        course.stand(person, now.day);
        int joy = course.joyOf(deed, now.load[person]);
        course.passDay(person, deed);
        history.keepAct(now);
        return joy;
    }

    public boolean exchange(int person, int a, int b) {
        if (!told.hasPerson(person) || !told.hasPlace(person, a) || !told.hasPlace(person, b) || a == b) {
            return false;
        }
        now.exchangePlaces(person, a, b);
        history.keepAct(now);
        return true;
    }

    public int die(int half) {
        if (!told.hasHalf(half)) {
            return NONE;
        }
        now.alive[half] = 1 - now.alive[half];
        history.keepAct(now);
        return now.alive[half];
    }

    public int prank() {
        if (told.persons < 1) {
            return NONE;
        }
        now.seed = (now.seed * 137 + 71) % (MOST_SEED + 1);
        int person = now.seed % told.persons;
        if (told.hasPerson(person)) {
            now.goOn(person, told.places[person]);
        }
        history.keepAct(now);
        return person;
    }

    public boolean undo() {
        return history.stepBack(now);
    }

    public boolean redo() {
        return history.stepForth(now);
    }

    public int played(int person, int half, int n) {
        lying.clear();
        if (!told.isMember(person, half) || !isAskedFor(n)) {
            return GAP;
        }
        game.play(person, n, false);
        game.tellRow(lying);
        return game.worthOf(told.placeOf[half]);
    }

    private static boolean isAskedFor(int n) {
        return n >= 1 && n <= MOST_DAYS_ASKED;
    }

    public int together(int person, int n) {
        lying.clear();
        if (!told.hasPerson(person) || !isAskedFor(n)) {
            return GAP;
        }
        game.play(person, n, true);
        game.tellRow(lying);
        return game.worthOfAll();
    }

    public int next(int deed) {
        if (!told.hasDeed(deed) || bargain.row.size >= MOST_TOLD_IN_BARGAIN) {
            return NONE;
        }
        bargain.row.add(deed);
        return bargain.row.size;
    }

    public int hush() {
        int had = bargain.row.size;
        bargain.row.clear();
        return had;
    }

    public int breaks(int person, int n) {
        if (!told.hasPerson(person) || !isAskedFor(n) || bargain.row.size == 0) {
            return WRONG;
        }
        return bargain.firstBreak(person, n);
    }

    public int cares(int person, int n) {
        if (!told.hasPerson(person) || !isAskedFor(n) || bargain.row.size == 0) {
            return WRONG;
        }
        return bargain.fewestCares(person, n);
    }

    public int keeps(int person, int half, int n) {
        if (!told.isMember(person, half) || !isAskedFor(n) || bargain.row.size == 0) {
            return GAP;
        }
        return bargain.keptJoy(person, half, 0, now.load[person], n);
    }

    public int pairing(boolean fast) {
        pairings.search();
        lying.clear();
        if (fast) {
            if (pairings.fastOnes == 0) {
                return GAP;
            }
            pairings.tellOthers(pairings.firstFast, lying);
            return pairings.firstFastLiking;
        }
        pairings.tellOthers(pairings.most, lying);
        return pairings.mostLiking;
    }

    public int fast() {
        pairings.search();
        return pairings.fastOnes;
    }

    public int elected(int day) {
        if (day < 0 || day > LAST_SEEN_AHEAD) {
            return NONE;
        }
        return votes.winnerOn(day);
    }

    public int popular() {
        return votes.mostFavoured();
    }

    public int stolen(int n) {
        if (n < 0 || n > MOST_DAYS_OF_VOTES) {
            return NONE;
        }
        return votes.daysLost(n);
    }

    public int lies(int i) {
        return lying.at(i);
    }

    public int sight(int day, int half) {
        if (!told.hasHalf(half) || told.personOf[half] == NONE) {
            return NONE;
        }
        return sights.tell(day, half, NONE);
    }

    public int shown(int day, int skill) {
        if (skill < 0 || skill > MOST_SKILL) {
            return NONE;
        }
        return sights.tell(day, NONE, skill);
    }

    public boolean untell(int sight) {
        return sights.takeBack(sight);
    }

    public int later(int by) {
        if (by < 0 || by > MOST_LATER || sights.time + by > MOST_TIME) {
            return NONE;
        }
        sights.time += by;
        return sights.time;
    }

    public int alibis(int person, int k) {
        lying.clear();
        if (!told.hasPerson(person)) {
            return NONE;
        }
        sights.searchAlibis(person, 0, k);
        if (sights.alibisFound > 0) {
            lying.add(sights.firstGoneOn);
            lying.add(sights.firstLess);
            lying.add(sights.firstGreater);
        }
        return sights.alibisFound;
    }

    public int who(int person, int day, int k) {
        if (!told.hasPerson(person) || day < 0 || day > LAST_SIGHT_DAY) {
            return NONE;
        }
        sights.searchAlibis(person, day, k);
        return sights.possible;
    }

    public int stranger(int what, int k) {
        if (what < 0 || what > 1) {
            return NONE;
        }
        int length = sights.strangerDays(k);
        return what == 1 || length == NONE ? length : sights.strangerHalves(k);
    }

    public int image(int box) {
        if (box < 0 || box >= BOXES) {
            return NONE;
        }
        history.fillBox(box, now);
        return now.day;
    }

    public int back(int box) {
        if (box < 0 || box >= BOXES || !history.takeFromBox(box, now)) {
            return NONE;
        }
        history.restart(now);
        return now.day;
    }

    public int about(int what) {
        switch (what) {
            case 0: return told.halves;
            case 1: return told.persons;
            case 2: return told.deeds;
            case 3: return now.day;
            case 4: return now.seed;
            case 5: return history.past;
            case 6: return history.future;
            case 7: return bargain.row.size;
            case 8: return sights.count;
            case 9: return sights.time;
            case 10: return tapeLength;
            case 11: return told.units;
            case 12: return lying.size;
            case 13: return told.likesTold;
            default: return NONE;
        }
    }

    /** A row of numbers that grows up to a bound. */
    private static final class Row {
        private final int[] cells;
        private int size = 0;

        Row(int most) {
            cells = new int[Math.max(0, most)];
        }

        void clear() {
            size = 0;
        }

        void add(int number) {
            if (size >= 0 && size < cells.length) {
                cells[size] = number;
                size++;
            }
        }

        int at(int i) {
            return i >= 0 && i < size && i < cells.length ? cells[i] : NONE;
        }
    }

    /** What a REGISTER tells; turns hold numbers of HALVES, not their places. */
    private static final class Told {
        private static final int UNTOLD = -1;

        private int halves;
        private int persons;
        private int deeds;
        private int likesTold;
        private int units;
        private int draw;
        private final int[] skill = new int[MOST_HALVES];
        private final int[] cares = new int[MOST_HALVES];
        private final int[] favour = new int[MOST_HALVES];
        private final int[] personOf = new int[MOST_HALVES];
        private final int[] placeOf = new int[MOST_HALVES];
        private final int[] liking = new int[MOST_HALVES * MOST_HALVES];
        private final int[] members = new int[MOST_PERSONS];
        private final int[] places = new int[MOST_PERSONS];
        private final int[] turn = new int[MOST_PERSONS * MOST_PLACES];
        private final int[] joyStart = new int[MOST_DEEDS];
        private final int[] loadStart = new int[MOST_DEEDS];
        private final int[] loadEnd = new int[MOST_DEEDS];
        /** Formulas with what joins behind what is joined: an N as itself, any other TOKEN below 0. */
        private final int[] code = new int[MOST_CODE];

        Told() {
            empty();
        }

        void empty() {
            halves = 0;
            persons = 0;
            deeds = 0;
            likesTold = 0;
            units = 0;
            draw = UNTOLD;
            Arrays.fill(favour, UNTOLD);
            Arrays.fill(personOf, NONE);
            Arrays.fill(liking, UNTOLD);
        }

        void copyFrom(Told other) {
            halves = other.halves;
            persons = other.persons;
            deeds = other.deeds;
            likesTold = other.likesTold;
            units = other.units;
            draw = other.draw;
            System.arraycopy(other.skill, 0, skill, 0, MOST_HALVES);
            System.arraycopy(other.cares, 0, cares, 0, MOST_HALVES);
            System.arraycopy(other.favour, 0, favour, 0, MOST_HALVES);
            System.arraycopy(other.personOf, 0, personOf, 0, MOST_HALVES);
            System.arraycopy(other.placeOf, 0, placeOf, 0, MOST_HALVES);
            System.arraycopy(other.liking, 0, liking, 0, MOST_HALVES * MOST_HALVES);
            System.arraycopy(other.members, 0, members, 0, MOST_PERSONS);
            System.arraycopy(other.places, 0, places, 0, MOST_PERSONS);
            System.arraycopy(other.turn, 0, turn, 0, MOST_PERSONS * MOST_PLACES);
            System.arraycopy(other.joyStart, 0, joyStart, 0, MOST_DEEDS);
            System.arraycopy(other.loadStart, 0, loadStart, 0, MOST_DEEDS);
            System.arraycopy(other.loadEnd, 0, loadEnd, 0, MOST_DEEDS);
            System.arraycopy(other.code, 0, code, 0, MOST_CODE);
        }

        boolean hasHalf(int half) {
            return half >= 0 && half < halves;
        }

        boolean hasPerson(int person) {
            return person >= 0 && person < persons;
        }

        boolean hasDeed(int deed) {
            return deed >= 0 && deed < deeds;
        }

        boolean hasPlace(int person, int place) {
            return place >= 0 && place < places[person];
        }

        boolean isMember(int person, int half) {
            return hasPerson(person) && hasHalf(half) && personOf[half] == person;
        }

        int favoured(int half) {
            return Math.max(0, favour[half]);
        }

        int liked(int half, int other) {
            return Math.max(0, liking[half * MOST_HALVES + other]);
        }
    }

    /** Reads a text into a draft; where it can't, it tells the first FAULT. */
    private static final class Reader {
        private static final int LEVEL_OR = 0;
        private static final int LEVEL_AND = 1;
        private static final int LEVEL_ONE = 2;
        private static final int LEVEL_SUM = 3;
        private static final int LEVEL_TERM = 4;
        private static final int LEVEL_UNIT = 5;
        private static final int LONGEST_WORD = 8;
        private static final int LONGEST_NUMBER = 4;

        private final Told draft = new Told();
        private final long[] halfNames = new long[MOST_HALVES];
        private final long[] personNames = new long[MOST_PERSONS];
        private final long[] deedNames = new long[MOST_DEEDS];
        /** HALVES of the PERSON that is read, by their places. */
        private final int[] memberAt = new int[MOST_MEMBERS];
        private final int[] text;
        private int length = 0;
        private int fault = 0;
        private int place = NONE;
        /** The TOKEN looked at: where it begins, what it is, its name or number, and the byte behind it. */
        private int start;
        private int token;
        private long name;
        private int number;
        private int behind;
        /** What was taken last. */
        private int taken;
        private int unitsOfOne;
        private int codeLength;

        Reader(int[] tape) {
            text = tape;
        }

        boolean read(int bytes) {
            length = Math.max(0, Math.min(bytes, text.length));
            draft.empty();
            fault = 0;
            place = NONE;
            behind = 0;
            codeLength = 0;
            advance();
            boolean fine = true;
            for (int i = 0; i < MOST_BYTES && fine && token != END; i++) {
                switch (token) {
                    case HALF: fine = halfLine(); break;
                    case LIKE: fine = likeLine(); break;
                    case PERSON: fine = personLine(); break;
                    case DEED: fine = deedLine(); break;
                    case FAVOUR: fine = favourLine(); break;
                    case DRAW: fine = drawLine(); break;
                    default: fine = refuse(FAULT_MISPLACED);
                }
                fine = fine && take(';');
            }
            return fine;
        }

        private boolean halfLine() {
            int half = draft.halves;
            if (half >= MOST_HALVES) {
                return refuse(FAULT_MISPLACED);
            }
            advance();
            if (!takeNewName(halfNames, half) || !take(SKILL) || !takeNumber(MOST_SKILL)) {
                return false;
            }
            draft.skill[half] = taken;
            draft.cares[half] = 0;
            if (token == CARES) {
                advance();
                if (!takeNumber(MOST_CARES)) {
                    return false;
                }
                draft.cares[half] = taken;
            }
            draft.halves++;
            return true;
        }

        private boolean likeLine() {
            if (draft.likesTold >= MOST_LIKES) {
                return refuse(FAULT_MISPLACED);
            }
            advance();
            if (!takeHalf()) {
                return false;
            }
            int half = taken;
            if (!take(TO)) {
                return false;
            }
            int other = halfNamed();
            if (other == half || other != NONE && draft.liking[half * MOST_HALVES + other] != Told.UNTOLD) {
                return refuse(FAULT_TOLD_ALREADY);
            }
            if (!takeHalf() || !takeNumber(MOST_LIKING)) {
                return false;
            }
            draft.liking[half * MOST_HALVES + other] = taken;
            draft.likesTold++;
            return true;
        }

        private boolean personLine() {
            int person = draft.persons;
            if (person >= MOST_PERSONS) {
                return refuse(FAULT_MISPLACED);
            }
            advance();
            if (!takeNewName(personNames, person) || !take(OF)) {
                return false;
            }
            draft.members[person] = 0;
            for (int i = 0; i < MOST_MEMBERS && (i < 2 || token == NAME); i++) {
                if (!takeMember(person)) {
                    return false;
                }
            }
            if (!take(TURN) || !takeTurn(person)) {
                return false;
            }
            draft.persons++;
            return true;
        }

        private boolean takeMember(int person) {
            int half = halfNamed();
            if (half != NONE && draft.personOf[half] != NONE) {
                return refuse(FAULT_TOLD_ALREADY);
            }
            if (!takeHalf()) {
                return false;
            }
            draft.personOf[half] = person;
            draft.placeOf[half] = draft.members[person];
            memberAt[draft.members[person]] = half;
            draft.members[person]++;
            return true;
        }

        private boolean takeTurn(int person) {
            draft.places[person] = 0;
            for (int i = 0; i < MOST_PLACES && (i == 0 || token == NUMBER); i++) {
                if (!takeNumber(draft.members[person] - 1)) {
                    return false;
                }
                draft.turn[person * MOST_PLACES + i] = memberAt[taken];
                draft.places[person]++;
            }
            return true;
        }

        private boolean deedLine() {
            int deed = draft.deeds;
            if (deed >= MOST_DEEDS) {
                return refuse(FAULT_MISPLACED);
            }
            advance();
            if (!takeNewName(deedNames, deed) || !take(JOY)) {
                return false;
            }
            unitsOfOne = 0;
            draft.joyStart[deed] = codeLength;
            if (!formula(LEVEL_OR, 0) || !take(LOAD)) {
                return false;
            }
            unitsOfOne = 0;
            draft.loadStart[deed] = codeLength;
            if (!formula(LEVEL_OR, 0)) {
                return false;
            }
            draft.loadEnd[deed] = codeLength;
            draft.deeds++;
            return true;
        }

        private boolean favourLine() {
            advance();
            int half = halfNamed();
            if (half != NONE && draft.favour[half] != Told.UNTOLD) {
                return refuse(FAULT_TOLD_ALREADY);
            }
            if (!takeHalf() || !takeNumber(MOST_FAVOURED)) {
                return false;
            }
            draft.favour[half] = taken;
            return true;
        }

        private boolean drawLine() {
            if (draft.draw != Told.UNTOLD) {
                return refuse(FAULT_MISPLACED);
            }
            advance();
            if (!takeNumber(MOST_SEED)) {
                return false;
            }
            draft.draw = taken;
            return true;
        }

        /** One level of the grammar of e; depth: within how many units ( e ) and nots this stands. */
        private boolean formula(int level, int depth) {
            if (level >= LEVEL_UNIT) {
                return unit(depth);
            }
            if (level == LEVEL_ONE && token == NOT) {
                if (depth >= MOST_NESTED) {
                    return refuse(FAULT_MISPLACED);
                }
                advance();
                return formula(LEVEL_ONE, depth + 1) && emit(-NOT);
            }
            if (!formula(level + 1, depth)) {
                return false;
            }
            // A relation stands once in a one; elsewhere the bound of units ends it.
            int most = level == LEVEL_ONE ? 1 : MOST_UNITS_OF_ONE;
            for (int i = 0; i < most && levelOf(token) == level; i++) {
                int joining = token;
                advance();
                if (!formula(level + 1, depth) || !emit(-joining)) {
                    return false;
                }
            }
            return true;
        }

        private static int levelOf(int token) {
            switch (token) {
                case OR: return LEVEL_OR;
                case AND: return LEVEL_AND;
                case '<': case '>': case '=': return LEVEL_ONE;
                case '+': case '-': return LEVEL_SUM;
                case '*': case '/': case '%': return LEVEL_TERM;
                default: return NONE;
            }
        }

        private boolean unit(int depth) {
            boolean tooDeep = token == '(' && depth >= MOST_NESTED;
            if (tooDeep || unitsOfOne >= MOST_UNITS_OF_ONE || draft.units >= MOST_UNITS) {
                return refuse(FAULT_MISPLACED);
            }
            unitsOfOne++;
            draft.units++;
            boolean fine;
            switch (token) {
                case NUMBER: fine = emit(number); break;
                case LOAD: case DAY: case SKILL: case AGAIN: fine = emit(-token); break;
                case '(':
                    advance();
                    fine = formula(LEVEL_OR, depth + 1) && (token == ')' || refuse(FAULT_MISPLACED));
                    break;
                default: fine = refuse(FAULT_MISPLACED);
            }
            if (fine) {
                advance();
            }
            return fine;
        }

        private boolean emit(int step) {
            if (codeLength < 0 || codeLength >= MOST_CODE) {
                return refuse(FAULT_MISPLACED);
            }
            draft.code[codeLength] = step;
            codeLength++;
            return true;
        }

        private boolean take(int wanted) {
            if (token != wanted) {
                return refuse(FAULT_MISPLACED);
            }
            advance();
            return true;
        }

        private boolean takeNewName(long[] names, int count) {
            if (token != NAME) {
                return refuse(FAULT_MISPLACED);
            }
            if (count < 0 || count >= names.length || indexOf(names, count) != NONE) {
                return refuse(FAULT_TOLD_ALREADY);
            }
            names[count] = name;
            advance();
            return true;
        }

        private int indexOf(long[] names, int count) {
            for (int i = 0; i < count && i < names.length; i++) {
                if (names[i] == name) {
                    return i;
                }
            }
            return NONE;
        }

        /** The HALF that the TOKEN looked at names; NONE if it names none. */
        private int halfNamed() {
            return token == NAME ? indexOf(halfNames, draft.halves) : NONE;
        }

        private boolean takeHalf() {
            int half = halfNamed();
            if (half == NONE) {
                return refuse(token == NAME ? FAULT_NO_HALF : FAULT_MISPLACED);
            }
            taken = half;
            advance();
            return true;
        }

        private boolean takeNumber(int most) {
            if (token != NUMBER) {
                return refuse(FAULT_MISPLACED);
            }
            if (number > most) {
                return refuse(FAULT_NUMBER);
            }
            taken = number;
            advance();
            return true;
        }

        /** The FAULT is at the TOKEN looked at; always false, so that callers can answer it. */
        private boolean refuse(int kind) {
            fault = token == BAD ? FAULT_NO_TOKEN : kind;
            place = start;
            return false;
        }

        private void advance() {
            start = behind;
            while (start < length && (text[start] == ' ' || text[start] == '\n')) {
                start++;
            }
            behind = start;
            if (start >= length) {
                token = END;
            } else if (isLetter(start)) {
                scanWord();
            } else if (isDigit(start)) {
                scanNumber();
            } else {
                behind++;
                token = isSign(text[start]) ? text[start] : BAD;
            }
        }

        private void scanWord() {
            name = 0;
            while (behind < length && isLetter(behind)) {
                name = name * 27 + (text[behind] - 'a' + 1);
                behind++;
            }
            token = behind - start > LONGEST_WORD ? BAD : wordToken(behind - start);
        }

        private void scanNumber() {
            number = 0;
            while (behind < length && isDigit(behind)) {
                number = number * 10 + (text[behind] - '0');
                behind++;
            }
            token = behind - start > LONGEST_NUMBER || isLetter(behind) ? BAD : NUMBER;
        }

        private boolean isLetter(int i) {
            return i >= 0 && i < length && text[i] >= 'a' && text[i] <= 'z';
        }

        private boolean isDigit(int i) {
            return i >= 0 && i < length && text[i] >= '0' && text[i] <= '9';
        }

        private static boolean isSign(int sign) {
            switch (sign) {
                case ';': case '(': case ')': case '<': case '>': case '=':
                case '+': case '-': case '*': case '/': case '%':
                    return true;
                default:
                    return false;
            }
        }

        /** Of a word of so many letters from start on: itself, if it stands for itself, else NAME. */
        private int wordToken(int letters) {
            for (int slot = 0; letters <= WORD_SLOT && slot + WORD_SLOT <= WORDS.length(); slot += WORD_SLOT) {
                int same = 0;
                while (same < letters && text[start + same] == WORDS.charAt(slot + same)) {
                    same++;
                }
                if (same == letters && (letters == WORD_SLOT || WORDS.charAt(slot + letters) == ' ')) {
                    return FIRST_WORD + slot / WORD_SLOT;
                }
            }
            return NAME;
        }
    }

    /** All that ACTS change. */
    private static final class State {
        private int day = 0;
        private int seed = 0;
        private final int[] load = new int[MOST_PERSONS];
        private final int[] turn = new int[MOST_PERSONS * MOST_PLACES];
        private final int[] alive = new int[MOST_HALVES];
        private final int[] did = new int[MOST_HALVES * MOST_DEEDS];
        private final int[] joys = new int[MOST_HALVES];

        void begin(Told told) {
            day = 0;
            seed = Math.max(0, told.draw);
            Arrays.fill(load, 0);
            System.arraycopy(told.turn, 0, turn, 0, MOST_PERSONS * MOST_PLACES);
            Arrays.fill(alive, 1);
            Arrays.fill(did, 0);
            Arrays.fill(joys, 0);
        }

        void copyFrom(State other) {
            day = other.day;
            seed = other.seed;
            System.arraycopy(other.load, 0, load, 0, MOST_PERSONS);
            System.arraycopy(other.turn, 0, turn, 0, MOST_PERSONS * MOST_PLACES);
            System.arraycopy(other.alive, 0, alive, 0, MOST_HALVES);
            System.arraycopy(other.did, 0, did, 0, MOST_HALVES * MOST_DEEDS);
            System.arraycopy(other.joys, 0, joys, 0, MOST_HALVES);
        }

        int howOften(int half, int deed) {
            return did[half * MOST_DEEDS + deed];
        }

        void exchangePlaces(int person, int a, int b) {
            int base = person * MOST_PLACES;
            int half = turn[base + a];
            turn[base + a] = turn[base + b];
            turn[base + b] = half;
        }

        /** The first place comes last. */
        void goOn(int person, int places) {
            for (int i = 0; i + 1 < places && i + 1 < MOST_PLACES; i++) {
                exchangePlaces(person, i, i + 1);
            }
        }
    }

    /** The latest ACTS, each by what was before and behind it, and the BOXES. */
    private static final class History {
        private static final int ROUND = MOST_ACTS + 1;

        /** States go round and round; the one of now is past places behind the first. */
        private final State[] kept = new State[ROUND];
        private final State[] boxes = new State[BOXES];
        private final boolean[] filled = new boolean[BOXES];
        private int first = 0;
        private int past = 0;
        private int future = 0;

        void restart(State now) {
            first = 0;
            past = 0;
            future = 0;
            keepAt(0, now);
        }

        void keepAct(State now) {
            if (past >= MOST_ACTS) {
                first = (first + 1) % ROUND;
            } else {
                past++;
            }
            future = 0;
            keepAt((first + past) % ROUND, now);
        }

        private void keepAt(int i, State now) {
            if (i < 0 || i >= ROUND) {
                return;
            }
            if (kept[i] == null) {
                kept[i] = new State();
            }
            kept[i].copyFrom(now);
        }

        boolean stepBack(State now) {
            if (past <= 0) {
                return false;
            }
            past--;
            future++;
            return fetch(now);
        }

        boolean stepForth(State now) {
            if (future <= 0) {
                return false;
            }
            past++;
            future--;
            return fetch(now);
        }

        private boolean fetch(State now) {
            State then = kept[(first + past) % ROUND];
            if (then == null) {
                return false;
            }
            now.copyFrom(then);
            return true;
        }

        void emptyBoxes() {
            for (int box = 0; box < BOXES; box++) {
                filled[box] = false;
            }
        }

        void fillBox(int box, State now) {
            if (boxes[box] == null) {
                boxes[box] = new State();
            }
            boxes[box].copyFrom(now);
            filled[box] = true;
        }

        boolean takeFromBox(int box, State now) {
            if (!filled[box] || boxes[box] == null) {
                return false;
            }
            now.copyFrom(boxes[box]);
            return true;
        }
    }

    /** How DAYS go: who is IN, what comes of DEEDS, what is CHOSEN. */
    private static final class Course {
        private final Told told;
        private final State now;
        private final int[] stack = new int[MOST_UNITS_OF_ONE];
        /** How things stand on the DAY looked at. */
        private int day;
        private int skill;
        private int again;
        /** Of the DEED that greedyDeed answered last. */
        private int greatestJoy;

        Course(Told told, State now) {
            this.told = told;
            this.now = now;
        }

        /** NONE: NOBODY. */
        int whoIn(int person, int onDay) {
            if (!told.hasPerson(person) || onDay < 0 || told.places[person] < 1) {
                return NONE;
            }
            int half = now.turn[person * MOST_PLACES + onDay % told.places[person]];
            return told.hasHalf(half) && now.alive[half] == 1 ? half : NONE;
        }

        /** Looks at a DAY of a PERSON, as joyOf, loadAfter and greedyDeed need it; answers who is IN. */
        int stand(int person, int onDay) {
            int half = whoIn(person, onDay);
            day = onDay;
            skill = told.hasHalf(half) ? told.skill[half] : 0;
            again = half != NONE && whoIn(person, onDay - 1) == half ? 1 : 0;
            return half;
        }

        int joyOf(int deed, int load) {
            return told.hasDeed(deed) ? evaluate(told.joyStart[deed], told.loadStart[deed], load) : 0;
        }

        int loadAfter(int deed, int load) {
            if (!told.hasDeed(deed)) {
                return load;
            }
            int plain = evaluate(told.loadStart[deed], told.loadEnd[deed], load);
            return Math.max(0, Math.min(MOST_LOAD, plain));
        }

        private int evaluate(int from, int to, int load) {
            int top = 0;
            for (int i = Math.max(0, from); i < to && i < MOST_CODE; i++) {
                int step = told.code[i];
                if (step == -NOT && top >= 1) {
                    stack[top - 1] = stack[top - 1] == 0 ? 1 : 0;
                } else if (isOperand(step) && top < stack.length) {
                    stack[top] = step >= 0 ? step : standing(-step, load);
                    top++;
                } else if (top >= 2) {
                    top--;
                    stack[top - 1] = join(-step, stack[top - 1], stack[top]);
                }
            }
            return stack[0];
        }

        private static boolean isOperand(int step) {
            return step >= 0 || step == -LOAD || step == -DAY || step == -SKILL || step == -AGAIN;
        }

        private int standing(int word, int load) {
            switch (word) {
                case LOAD: return load;
                case DAY: return day;
                case SKILL: return skill;
                default: return again;
            }
        }

        private static int join(int sign, int a, int b) {
            switch (sign) {
                case '+': return a + b;
                case '-': return a - b;
                case '*': return a * b;
                case '/': return b == 0 ? 0 : a / b;
                case '%': return b == 0 ? 0 : a % b;
                case '<': return a < b ? 1 : 0;
                case '>': return a > b ? 1 : 0;
                case '=': return a == b ? 1 : 0;
                case AND: return a != 0 && b != 0 ? 1 : 0;
                default: return a != 0 || b != 0 ? 1 : 0;
            }
        }

        /** The DEED of the greatest JOY on the DAY looked at; NONE without DEEDS. */
        private int greedyDeed(int load) {
            int best = NONE;
            for (int deed = 0; deed < told.deeds; deed++) {
                int joy = joyOf(deed, load);
                if (best == NONE || joy > greatestJoy) {
                    best = deed;
                    greatestJoy = joy;
                }
            }
            return best;
        }

        /** JOY of a HALF on so many DAYS from one on, if all are GREEDY. */
        int greedyJoy(int person, int half, int from, int loadThen, int count) {
            int sum = 0;
            int load = loadThen;
            for (int i = 0; i < count; i++) {
                int in = stand(person, from + i);
                int deed = in == NONE ? NONE : greedyDeed(load);
                if (deed != NONE) {
                    sum += in == half ? greatestJoy : 0;
                    load = loadAfter(deed, load);
                }
            }
            return sum;
        }

        /** What who is IN on a DAY CHOOSES; NONE: nothing. */
        int chosen(int person, int onDay, int load, int cares) {
            int half = whoIn(person, onDay);
            int best = NONE;
            int most = 0;
            for (int deed = 0; deed < told.deeds && half != NONE; deed++) {
                stand(person, onDay);
                int joy = joyOf(deed, load);
                int sum = joy + greedyJoy(person, half, onDay + 1, loadAfter(deed, load), cares);
                if (best == NONE || sum > most) {
                    best = deed;
                    most = sum;
                }
            }
            return best;
        }

        /** The coming DAY goes by; a PERSON (or NONE) does a DEED by decree. */
        void passDay(int decreed, int decreedDeed) {
            for (int person = 0; person < told.persons; person++) {
                int half = whoIn(person, now.day);
                if (half != NONE) {
                    int deed = person == decreed ? decreedDeed
                        : chosen(person, now.day, now.load[person], told.cares[half]);
                    carryOut(person, deed);
                }
            }
            now.day++;
        }

        private void carryOut(int person, int deed) {
            int half = stand(person, now.day);
            if (half == NONE || !told.hasDeed(deed)) {
                return;
            }
            int load = now.load[person];
            now.joys[half] += joyOf(deed, load);
            now.did[half * MOST_DEEDS + deed]++;
            now.load[person] = loadAfter(deed, load);
        }
    }

    /** Games over DAYS played to the end, by what is best for who is IN or for all. */
    private static final class Game {
        private static final int LOADS = MOST_LOAD + 1;
        private static final int UNSOLVED = -2;

        private final Told told;
        private final State now;
        private final Course course;
        /** By DAY and LOAD: what is done, and JOY of each member from then to the end. */
        private final int[] choice = new int[MOST_DAYS_ASKED * LOADS];
        private final int[] worth = new int[MOST_DAYS_ASKED * LOADS * MOST_MEMBERS];
        private int person;
        private int length;
        private boolean forAll;

        Game(Told told, State now, Course course) {
            this.told = told;
            this.now = now;
            this.course = course;
        }

        void play(int whose, int n, boolean shared) {
            person = whose;
            length = Math.max(0, Math.min(MOST_DAYS_ASKED, n));
            forAll = shared;
            Arrays.fill(choice, UNSOLVED);
            solve(0, now.load[whose]);
        }

        /** Only LOADS that can come about are solved, each once; the DAYS asked bound the depth. */
        private void solve(int t, int load) {
            if (t >= length || choice[cell(t, load)] != UNSOLVED) {
                return;
            }
            int half = course.whoIn(person, now.day + t);
            int best = NONE;
            int most = 0;
            int bestJoy = 0;
            int bestLoad = load;
            for (int deed = 0; deed < told.deeds && half != NONE; deed++) {
                course.stand(person, now.day + t);
                int joy = course.joyOf(deed, load);
                int loadThen = course.loadAfter(deed, load);
                solve(t + 1, loadThen);
                int sum = joy + (forAll ? allWorth(t + 1, loadThen) : worthAt(t + 1, loadThen, told.placeOf[half]));
                if (best == NONE || sum > most) {
                    best = deed;
                    most = sum;
                    bestJoy = joy;
                    bestLoad = loadThen;
                }
            }
            if (best == NONE) {
                solve(t + 1, load);
            }
            settle(cell(t, load), t + 1, bestLoad);
            choice[cell(t, load)] = best;
            if (best != NONE) {
                worth[cell(t, load) * MOST_MEMBERS + told.placeOf[half]] += bestJoy;
            }
        }

        private static int cell(int t, int load) {
            return t * LOADS + Math.max(0, Math.min(MOST_LOAD, load));
        }

        private void settle(int cell, int t, int load) {
            for (int member = 0; member < MOST_MEMBERS; member++) {
                worth[cell * MOST_MEMBERS + member] = worthAt(t, load, member);
            }
        }

        private int worthAt(int t, int load, int member) {
            return t >= length ? 0 : worth[cell(t, load) * MOST_MEMBERS + member];
        }

        private int allWorth(int t, int load) {
            int sum = 0;
            for (int member = 0; member < MOST_MEMBERS; member++) {
                sum += worthAt(t, load, member);
            }
            return sum;
        }

        int worthOf(int member) {
            return worthAt(0, now.load[person], member);
        }

        int worthOfAll() {
            return allWorth(0, now.load[person]);
        }

        void tellRow(Row row) {
            int load = now.load[person];
            for (int t = 0; t < length; t++) {
                int deed = choice[cell(t, load)];
                row.add(deed);
                if (deed != NONE) {
                    course.stand(person, now.day + t);
                    load = course.loadAfter(deed, load);
                }
            }
        }
    }

    /** A row of DEEDS told, round and round, and who would keep to it. */
    private static final class Bargain {
        private final Told told;
        private final State now;
        private final Course course;
        private final Row row = new Row(MOST_TOLD_IN_BARGAIN);

        Bargain(Told told, State now, Course course) {
            this.told = told;
            this.now = now;
            this.course = course;
        }

        private int deedOn(int t) {
            return row.size < 1 ? NONE : row.at(t % row.size);
        }

        /** JOY of a HALF on the DAYS from the t-th to the n-th, the BARGAIN kept. */
        int keptJoy(int person, int half, int from, int loadThen, int n) {
            int sum = 0;
            int load = loadThen;
            for (int t = from; t < n; t++) {
                int in = course.stand(person, now.day + t);
                if (in != NONE) {
                    sum += in == half ? course.joyOf(deedOn(t), load) : 0;
                    load = course.loadAfter(deedOn(t), load);
                }
            }
            return sum;
        }

        int firstBreak(int person, int n) {
            int load = now.load[person];
            for (int t = 0; t < n; t++) {
                if (course.whoIn(person, now.day + t) != NONE) {
                    if (isBetterBroken(person, t, load, n)) {
                        return t;
                    }
                    course.stand(person, now.day + t);
                    load = course.loadAfter(deedOn(t), load);
                }
            }
            return NONE;
        }

        private boolean isBetterBroken(int person, int t, int load, int n) {
            int half = course.whoIn(person, now.day + t);
            int kept = keptJoy(person, half, t, load, n);
            for (int deed = 0; deed < told.deeds; deed++) {
                if (deed != deedOn(t)) {
                    course.stand(person, now.day + t);
                    int joy = course.joyOf(deed, load);
                    int loadThen = course.loadAfter(deed, load);
                    if (joy + course.greedyJoy(person, half, now.day + t + 1, loadThen, n - 1 - t) > kept) {
                        return true;
                    }
                }
            }
            return false;
        }

        int fewestCares(int person, int n) {
            int enough = (1 << (MOST_CARES + 1)) - 1;
            int load = now.load[person];
            for (int t = 0; t < n; t++) {
                int day = now.day + t;
                if (course.whoIn(person, day) != NONE) {
                    for (int cares = 0; cares <= MOST_CARES; cares++) {
                        if ((enough >> cares & 1) == 1 && course.chosen(person, day, load, cares) != deedOn(t)) {
                            enough &= ~(1 << cares);
                        }
                    }
                    course.stand(person, day);
                    load = course.loadAfter(deedOn(t), load);
                }
            }
            for (int cares = 0; cares <= MOST_CARES; cares++) {
                if ((enough >> cares & 1) == 1) {
                    return cares;
                }
            }
            return NONE;
        }
    }

    /** All PAIRINGS of HALVES that are alive, in their order. */
    private static final class Pairings {
        private static final int OPEN = -2;

        private final Told told;
        private final State now;
        /** By HALVES: the other one; himself, if he is left; OPEN, if that is not said yet (or he is dead). */
        private final int[] other = new int[MOST_HALVES];
        private final int[] most = new int[MOST_HALVES];
        private final int[] firstFast = new int[MOST_HALVES];
        private boolean found;
        private int mostLiking;
        private int firstFastLiking;
        private int fastOnes;

        Pairings(Told told, State now) {
            this.told = told;
            this.now = now;
        }

        void search() {
            int alive = 0;
            for (int half = 0; half < told.halves; half++) {
                alive += now.alive[half];
            }
            Arrays.fill(other, OPEN);
            found = false;
            fastOnes = 0;
            extend(0, alive % 2 == 1);
        }

        /** Less numbers are tried first, so PAIRINGS come in their order; the HALVES bound the depth. */
        private void extend(int from, boolean mayLeave) {
            int half = from;
            while (half < told.halves && !isOpen(half)) {
                half++;
            }
            if (half >= told.halves) {
                judge();
                return;
            }
            if (mayLeave) {
                other[half] = half;
                extend(half + 1, false);
                other[half] = OPEN;
            }
            for (int mate = half + 1; mate < told.halves; mate++) {
                if (isOpen(mate)) {
                    other[half] = mate;
                    other[mate] = half;
                    extend(half + 1, mayLeave);
                    other[half] = OPEN;
                    other[mate] = OPEN;
                }
            }
        }

        private boolean isOpen(int half) {
            return now.alive[half] == 1 && other[half] == OPEN;
        }

        private void judge() {
            int sum = 0;
            for (int half = 0; half < told.halves; half++) {
                sum += other[half] == OPEN ? 0 : likesHis(half);
            }
            if (!found || sum > mostLiking) {
                found = true;
                mostLiking = sum;
                System.arraycopy(other, 0, most, 0, MOST_HALVES);
            }
            if (isFast()) {
                if (fastOnes == 0) {
                    firstFastLiking = sum;
                    System.arraycopy(other, 0, firstFast, 0, MOST_HALVES);
                }
                fastOnes++;
            }
        }

        private int likesHis(int half) {
            return other[half] == half || !told.hasHalf(other[half]) ? -1 : told.liked(half, other[half]);
        }

        private boolean isFast() {
            for (int a = 0; a < told.halves; a++) {
                for (int b = a + 1; b < told.halves; b++) {
                    if (other[a] != OPEN && other[b] != OPEN && other[a] != b
                            && told.liked(a, b) > likesHis(a) && told.liked(b, a) > likesHis(b)) {
                        return false;
                    }
                }
            }
            return true;
        }

        void tellOthers(int[] pairs, Row row) {
            for (int half = 0; half < told.halves && half < pairs.length; half++) {
                row.add(pairs[half] == half || pairs[half] == OPEN ? NONE : pairs[half]);
            }
        }
    }

    /** ELECTIONS by who is IN, and what most favour. */
    private static final class Votes {
        private final Told told;
        private final State now;
        private final Course course;
        private final int[] count = new int[MOST_FAVOURED + 1];

        Votes(Told told, State now, Course course) {
            this.told = told;
            this.now = now;
            this.course = course;
        }

        int winnerOn(int day) {
            Arrays.fill(count, 0);
            for (int person = 0; person < told.persons; person++) {
                addVote(course.whoIn(person, day));
            }
            return winner();
        }

        int mostFavoured() {
            Arrays.fill(count, 0);
            for (int half = 0; half < told.halves; half++) {
                addVote(now.alive[half] == 1 ? half : NONE);
            }
            return winner();
        }

        private void addVote(int half) {
            if (told.hasHalf(half)) {
                count[Math.min(MOST_FAVOURED, told.favoured(half))]++;
            }
        }

        private int winner() {
            int best = NONE;
            int most = 0;
            for (int i = 0; i <= MOST_FAVOURED; i++) {
                if (count[i] > most) {
                    best = i;
                    most = count[i];
                }
            }
            return best;
        }

        int daysLost(int n) {
            int wanted = mostFavoured();
            int lost = 0;
            for (int i = 0; i < n; i++) {
                int winner = winnerOn(now.day + i);
                if (winner == NONE || winner != wanted) {
                    lost++;
                }
            }
            return lost;
        }
    }

    /** What was seen, told and untold at TIMES, and what follows from it. */
    private static final class Sights {
        private final Told told;
        private final int[] day = new int[MOST_SIGHTS];
        /** NONE: it is a stranger's skill. */
        private final int[] half = new int[MOST_SIGHTS];
        private final int[] skill = new int[MOST_SIGHTS];
        private final int[] toldAt = new int[MOST_SIGHTS];
        /** NONE: not yet. */
        private final int[] untoldAt = new int[MOST_SIGHTS];
        private int count = 0;
        private int time = 0;
        /** By places of a turn: the HALF seen there, NONE if none was. */
        private final int[] seen = new int[MOST_PLACES];
        private final int[] shownAt = new int[MOST_STRANGER_DAYS];
        private int alibisFound;
        private int firstGoneOn;
        private int firstLess;
        private int firstGreater;
        private int possible;

        Sights(Told told) {
            this.told = told;
        }

        void clear() {
            count = 0;
        }

        int tell(int onDay, int ofHalf, int ofSkill) {
            if (onDay < 0 || onDay > LAST_SIGHT_DAY || count < 0 || count >= MOST_SIGHTS) {
                return NONE;
            }
            day[count] = onDay;
            half[count] = ofHalf;
            skill[count] = ofSkill;
            toldAt[count] = time;
            untoldAt[count] = NONE;
            count++;
            return count - 1;
        }

        boolean takeBack(int sight) {
            if (sight < 0 || sight >= count || untoldAt[sight] != NONE) {
                return false;
            }
            untoldAt[sight] = time;
            return true;
        }

        private boolean counts(int sight, int k) {
            return toldAt[sight] <= k && (untoldAt[sight] == NONE || untoldAt[sight] > k);
        }

        /** Finds ALIBIS as known at k: how many, the first of them, and who can have been IN on a DAY. */
        void searchAlibis(int person, int onDay, int k) {
            alibisFound = 0;
            possible = 0;
            int places = told.places[person];
            if (places < 1 || places > MOST_PLACES || !gatherSeen(person, k)) {
                return;
            }
            int asked = Math.floorMod(onDay, places);
            for (int goneOn = 0; goneOn < places; goneOn++) {
                tryAlibi(person, goneOn, NONE, NONE, asked);
                for (int less = 0; less < places; less++) {
                    for (int greater = less + 1; greater < places; greater++) {
                        tryAlibi(person, goneOn, less, greater, asked);
                    }
                }
            }
        }

        /** False if two were seen at one place: then nothing explains it. */
        private boolean gatherSeen(int person, int k) {
            Arrays.fill(seen, NONE);
            int places = told.places[person];
            boolean clash = false;
            for (int i = 0; i < count; i++) {
                if (told.isMember(person, half[i]) && counts(i, k) && places > 0) {
                    int place = day[i] % places;
                    clash = clash || seen[place] != NONE && seen[place] != half[i];
                    seen[place] = half[i];
                }
            }
            return !clash;
        }

        private void tryAlibi(int person, int goneOn, int less, int greater, int asked) {
            int places = told.places[person];
            for (int place = 0; place < places; place++) {
                if (seen[place] != NONE && seen[place] != wouldBeIn(person, goneOn, exchanged(place, less, greater))) {
                    return;
                }
            }
            if (alibisFound == 0) {
                firstGoneOn = goneOn;
                firstLess = less;
                firstGreater = greater;
            }
            alibisFound++;
            possible |= 1 << wouldBeIn(person, goneOn, exchanged(asked, less, greater));
        }

        private static int exchanged(int place, int less, int greater) {
            return place == less ? greater : place == greater ? less : place;
        }

        private int wouldBeIn(int person, int goneOn, int place) {
            int places = told.places[person];
            return places < 1 ? NONE : told.turn[person * MOST_PLACES + (place + goneOn) % places];
        }

        /** The least number of DAYS of a stranger's turn; NONE if there is none. */
        int strangerDays(int k) {
            for (int length = 1; length <= MOST_STRANGER_DAYS; length++) {
                if (explains(length, k)) {
                    return length;
                }
            }
            return NONE;
        }

        private boolean explains(int length, int k) {
            Arrays.fill(shownAt, NONE);
            for (int i = 0; i < count; i++) {
                if (half[i] == NONE && counts(i, k)) {
                    int place = length < 1 ? 0 : day[i] % length;
                    if (shownAt[place] != NONE && shownAt[place] != skill[i]) {
                        return false;
                    }
                    shownAt[place] = skill[i];
                }
            }
            return true;
        }

        int strangerHalves(int k) {
            int skills = 0;
            for (int i = 0; i < count; i++) {
                if (half[i] == NONE && counts(i, k)) {
                    skills |= 1 << skill[i];
                }
            }
            return Math.max(1, Integer.bitCount(skills));
        }
    }
}
