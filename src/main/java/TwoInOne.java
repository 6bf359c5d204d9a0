import java.util.Arrays;

/** Halves who are one person by turns of days; ../shared/DOC.md says what each call answers. */
public final class TwoInOne {
    public static final int NONE = -1;
    public static final int GAP = -1000000000;

    /** What is answered where NONE has a meaning of its own. */
    private static final int WRONG = -2;

    private static final int GREATEST_INT = 0x7FFFFFFF;
    private static final int LEAST_INT = 0x80000000;
    private static final int INT_BITS = 32;
    private static final long INT_MASK = 0xFFFFFFFFL;
    private static final long ALL_INTS = 1L << INT_BITS;
    private static final int MOST_BYTES = 1600;
    private static final int FED_BYTES = 20;
    private static final int MOST_HALVES = 8;
    private static final int MOST_LIKES = 30;
    private static final int MOST_PERSONS = 4;
    private static final int MOST_MEMBERS = 3;
    private static final int MOST_PLACES = 14;
    private static final int MOST_DEEDS = 6;
    private static final int MOST_UNITS = 90;
    private static final int MOST_UNITS_OF_ONE = 30;
    /** One within six others, and these six. */
    private static final int MOST_NESTED = 7;
    /** Units and what joins them, and as many nots as 1,600 bytes can hold. */
    private static final int MOST_CODE = 640;
    private static final int MOST_CARES = 9;
    private static final int MOST_LIKING = 9;
    private static final int MOST_SKILL = 9;
    private static final int MOST_FAVOURED = 2;
    private static final int MOST_SEED = 999;
    private static final int MOST_LOAD = 99;
    private static final int LAST_DAY = 900;
    private static final int LAST_SEEN_AHEAD = 999;
    private static final int MOST_DAYS_AT_ONCE = 60;
    private static final int MOST_DAYS_ASKED = 20;
    private static final int MOST_DAYS_OF_VOTES = 99;
    private static final int MOST_ACTS = 40;
    private static final int BOXES = 3;
    private static final int MOST_TOLD_IN_BARGAIN = 14;
    private static final int FEW_SUMS = 1 << 15;
    private static final int MANY_SUMS = 1 << 18;
    private static final int MOST_SIGHTS = 30;
    private static final int LAST_SIGHT_DAY = 99;
    private static final int MOST_TIME = 100000;
    private static final int MOST_LATER = 1000;
    private static final int MOST_STRANGER_DAYS = 9;

    /** TOKENS: a sign is its own byte, a word that stands for itself is numbered by its place in WORDS. */
    private static final int END = 0;
    private static final int BAD = 1;
    private static final int NAME = 2;
    private static final int NUMBER = 3;
    private static final int FIRST_WORD = 200;
    private static final int WORD_SLOT = 6;
    private static final String WORDS =
        "half  skill cares like  to    personof    turn  deed  joy   load  favourdraw  or    and   not   day   again ";
    private static final int HALF = 200;
    private static final int SKILL = 201;
    private static final int CARES = 202;
    private static final int LIKE = 203;
    private static final int TO = 204;
    private static final int PERSON = 205;
    private static final int OF = 206;
    private static final int TURN = 207;
    private static final int DEED = 208;
    private static final int JOY = 209;
    private static final int LOAD = 210;
    private static final int FAVOUR = 211;
    private static final int DRAW = 212;
    private static final int OR = 213;
    private static final int AND = 214;
    private static final int NOT = 215;
    private static final int DAY = 216;
    private static final int AGAIN = 217;

    private static final int FAULT_NO_TOKEN = 1;
    private static final int FAULT_MISPLACED = 2;
    private static final int FAULT_TOLD_ALREADY = 3;
    private static final int FAULT_NUMBER = 4;
    private static final int FAULT_NO_HALF = 5;

    private final int[] tape = new int[MOST_BYTES];
    private int tapeLength = 0;
    private final Told told = new Told();
    private final Reader reader = new Reader(tape);
    private final State now = new State();
    private final History history = new History();
    private final Row lying = new Row(MOST_DAYS_ASKED);
    private final Course course = new Course(told, now);
    private final Game game = new Game(told, now, course);
    /** Made when they are first needed: they take much room, and where sums do not wrap nobody needs them. */
    private Sums fewSums = null;
    private Search search = null;
    private final Pairings pairings = new Pairings(told, now);
    private final Sights sights = new Sights(told);

    public TwoInOne() {
        now.begin(told);
        history.restart(now);
    }

    public int feed(int a, int b, int c, int d, int e) {
        if (tapeLength + FED_BYTES > MOST_BYTES) {
            return NONE;
        }
        put(a);
        put(b);
        put(c);
        put(d);
        put(e);
        return tapeLength;
    }

    private void put(int number) {
        for (int shift = 24; shift >= 0; shift -= 8) {
            if (tapeLength >= 0 && tapeLength < MOST_BYTES) {
                tape[tapeLength] = (number >>> shift) & 255;
                tapeLength++;
            }
        }
    }

    public int end(int n) {
        if (n < 0 || n > tapeLength) {
            return NONE;
        }
        tapeLength = n;
        return n;
    }

    public int register() {
        if (!reader.read(tapeLength)) {
            return NONE;
        }
        told.copyFrom(reader.draft);
        tapeLength = 0;
        now.begin(told);
        history.restart(now);
        history.emptyBoxes();
        game.bargain.clear();
        sights.clear();
        lying.clear();
        return told.halves;
    }

    public int fault(int what) {
        switch (what) {
            case 0: return reader.fault;
            case 1: return reader.place;
            default: return NONE;
        }
    }

    public int half(int half, int what) {
        if (!told.hasHalf(half)) {
            return NONE;
        }
        switch (what) {
            case 0: return told.personOf[half];
            case 1: return told.skill[half];
            case 2: return told.cares[half];
            case 3: return now.alive[half];
            case 4: return told.favoured(half);
            default: return NONE;
        }
    }

    public int likes(int half, int other) {
        if (!told.hasHalf(half) || !told.hasHalf(other) || half == other) {
            return NONE;
        }
        return told.liked(half, other);
    }

    public int person(int person, int what) {
        if (!told.hasPerson(person)) {
            return NONE;
        }
        switch (what) {
            case 0: return now.load[person];
            case 1: return told.places[person];
            case 2: return told.members[person];
            default: return NONE;
        }
    }

    public int in(int person, int day) {
        if (!told.hasPerson(person) || day < 0 || day > LAST_SEEN_AHEAD) {
            return WRONG;
        }
        return course.whoIn(person, day);
    }

    public int chooses(int person, int cares) {
        if (!told.hasPerson(person) || cares < NONE || cares > MOST_CARES) {
            return WRONG;
        }
        int half = course.whoIn(person, now.day);
        if (half == NONE) {
            return NONE;
        }
        int ahead = cares == NONE ? told.cares[half] : cares;
        return course.chosen(person, now.day, now.load[person], ahead);
    }

    public int joy(int person, int deed) {
        if (!canDo(person, deed)) {
            return GAP;
        }
        course.stand(person, now.day);
        return course.joyOf(deed, now.load[person]);
    }

    private boolean canDo(int person, int deed) {
        return told.hasPerson(person) && told.hasDeed(deed) && course.whoIn(person, now.day) != NONE;
    }

    public int record(int half, int deed) {
        if (!told.hasHalf(half)) {
            return GAP;
        }
        if (deed == NONE) {
            return now.joys[half];
        }
        return told.hasDeed(deed) ? now.howOften(half, deed) : GAP;
    }

    public int guilt(int deed, int half, int part) {
        if (!told.hasDeed(deed) || !told.hasHalf(half) || part < 0 || part > 1) {
            return NONE;
        }
        int upper = now.howOften(half, deed);
        int lower = 0;
        for (int other = 0; other < told.halves; other++) {
            lower += now.howOften(other, deed);
        }
        int divisor = commonDivisor(upper, lower);
        if (divisor == 0) {
            return part;
        }
        return part == 0 ? upper / divisor : lower / divisor;
    }

    /** Of two numbers below 4,000, which thirty steps always suffice for. */
    private static int commonDivisor(int a, int b) {
        int greater = a;
        int less = b;
        for (int i = 0; i < 64 && less != 0; i++) {
            int rest = greater % less;
            greater = less;
            less = rest;
        }
        return greater;
    }

    public int days(int n) {
        if (n < 0 || n > MOST_DAYS_AT_ONCE || now.day + n > LAST_DAY) {
            return NONE;
        }
        for (int i = 0; i < n; i++) {
            course.passDay(NONE, NONE);
        }
        history.keepAct(now);
        return now.day;
    }

    public int decree(int person, int deed) {
        if (!canDo(person, deed) || now.day >= LAST_DAY) {
            return GAP;
        }
        course.stand(person, now.day);
        int joy = course.joyOf(deed, now.load[person]);
        course.passDay(person, deed);
        history.keepAct(now);
        return joy;
    }

    public boolean exchange(int person, int a, int b) {
        if (!told.hasPerson(person) || !told.hasPlace(person, a) || !told.hasPlace(person, b) || a == b) {
            return false;
        }
        now.exchangePlaces(person, a, b);
        history.keepAct(now);
        return true;
    }

    public int die(int half) {
        if (!told.hasHalf(half)) {
            return NONE;
        }
        now.alive[half] = 1 - now.alive[half];
        history.keepAct(now);
        return now.alive[half];
    }

    public int prank() {
        if (told.persons < 1) {
            return NONE;
        }
        now.seed = (now.seed * 137 + 71) % (MOST_SEED + 1);
        int person = now.seed % told.persons;
        if (told.hasPerson(person)) {
            now.goOn(person, told.places[person]);
        }
        history.keepAct(now);
        return person;
    }

    public boolean undo() {
        return history.stepBack(now);
    }

    public boolean redo() {
        return history.stepForth(now);
    }

    public int played(int person, int half, int n) {
        lying.clear();
        if (!told.isMember(person, half) || !isAskedFor(n)) {
            return GAP;
        }
        return game.playEach(person, told.placeOf[half], n, lying);
    }

    private static boolean isAskedFor(int n) {
        return n >= 1 && n <= MOST_DAYS_ASKED;
    }

    public int together(int person, int n) {
        lying.clear();
        if (!told.hasPerson(person) || !isAskedFor(n)) {
            return GAP;
        }
        int load = now.load[person];
        game.playAll(person, n);
        if (!game.canWrap(0, load, 0)) {
            game.tellRow(lying);
            return (int) game.mostAt(0, load);
        }
        if (fewSums == null) {
            fewSums = new Sums(told, game, FEW_SUMS, 0);
        }
        fewSums.begin();
        if (fewSums.isKnown(0, load)) {
            return fewSums.tellBest(load, lying);
        }
        if (search == null) {
            search = new Search(told, game);
        }
        return search.tellBest(load, lying);
    }

    public int next(int deed) {
        if (!told.hasDeed(deed) || game.bargain.size >= MOST_TOLD_IN_BARGAIN) {
            return NONE;
        }
        game.bargain.add(deed);
        return game.bargain.size;
    }

    public int hush() {
        int had = game.bargain.size;
        game.bargain.clear();
        return had;
    }

    public int breaks(int person, int n) {
        if (!told.hasPerson(person) || !isAskedFor(n) || game.bargain.size == 0) {
            return WRONG;
        }
        return game.firstBreak(person, n);
    }

    public int cares(int person, int n) {
        if (!told.hasPerson(person) || !isAskedFor(n) || game.bargain.size == 0) {
            return WRONG;
        }
        return game.fewestCares(person, n);
    }

    public int keeps(int person, int half, int n) {
        if (!told.isMember(person, half) || !isAskedFor(n) || game.bargain.size == 0) {
            return GAP;
        }
        return game.keptJoy(person, half, 0, now.load[person], n);
    }

    public int pairing(boolean fast) {
        pairings.search();
        lying.clear();
        if (fast) {
            if (pairings.fastOnes == 0) {
                return GAP;
            }
            pairings.tellOthers(pairings.firstFast, lying);
            return pairings.firstFastLiking;
        }
        pairings.tellOthers(pairings.most, lying);
        return pairings.mostLiking;
    }

    public int fast() {
        pairings.search();
        return pairings.fastOnes;
    }

    public int elected(int day) {
        if (day < 0 || day > LAST_SEEN_AHEAD) {
            return NONE;
        }
        return course.winnerOn(day);
    }

    public int popular() {
        return course.mostFavoured();
    }

    public int stolen(int n) {
        if (n < 0 || n > MOST_DAYS_OF_VOTES) {
            return NONE;
        }
        return course.daysLost(n);
    }

    public int lies(int i) {
        return lying.at(i);
    }

    public int sight(int day, int half) {
        if (!told.hasHalf(half) || told.personOf[half] == NONE) {
            return NONE;
        }
        return sights.tell(day, half, NONE);
    }

    public int shown(int day, int skill) {
        if (skill < 0 || skill > MOST_SKILL) {
            return NONE;
        }
        return sights.tell(day, NONE, skill);
    }

    public boolean untell(int sight) {
        return sights.takeBack(sight);
    }

    public int later(int by) {
        if (by < 0 || by > MOST_LATER || sights.time + by > MOST_TIME) {
            return NONE;
        }
        sights.time += by;
        return sights.time;
    }

    public int alibis(int person, int k) {
        lying.clear();
        if (!told.hasPerson(person)) {
            return NONE;
        }
        sights.searchAlibis(person, 0, k);
        if (sights.alibisFound > 0) {
            lying.add(sights.firstGoneOn);
            lying.add(sights.firstLess);
            lying.add(sights.firstGreater);
        }
        return sights.alibisFound;
    }

    public int who(int person, int day, int k) {
        if (!told.hasPerson(person) || day < 0 || day > LAST_SIGHT_DAY) {
            return NONE;
        }
        sights.searchAlibis(person, day, k);
        return sights.possible;
    }

    public int stranger(int what, int k) {
        if (what < 0 || what > 1) {
            return NONE;
        }
        int length = sights.strangerDays(k);
        return what == 1 || length == NONE ? length : sights.strangerHalves(k);
    }

    public int image(int box) {
        if (box < 0 || box >= BOXES) {
            return NONE;
        }
        history.fillBox(box, now);
        return now.day;
    }

    public int back(int box) {
        if (box < 0 || box >= BOXES || !history.takeFromBox(box, now)) {
            return NONE;
        }
        history.restart(now);
        return now.day;
    }

    public int about(int what) {
        switch (what) {
            case 0: return told.halves;
            case 1: return told.persons;
            case 2: return told.deeds;
            case 3: return now.day;
            case 4: return now.seed;
            case 5: return history.past;
            case 6: return history.future;
            case 7: return game.bargain.size;
            case 8: return sights.count;
            case 9: return sights.time;
            case 10: return tapeLength;
            case 11: return told.units;
            case 12: return lying.size;
            case 13: return told.likesTold;
            default: return NONE;
        }
    }

    /** A row of numbers that grows up to a bound. */
    private static final class Row {
        private final int[] cells;
        private int size = 0;

        Row(int most) {
            cells = new int[Math.max(0, most)];
        }

        void clear() {
            size = 0;
        }

        void add(int number) {
            if (size >= 0 && size < cells.length) {
                cells[size] = number;
                size++;
            }
        }

        int at(int i) {
            return i >= 0 && i < size && i < cells.length ? cells[i] : NONE;
        }
    }

    /** What a REGISTER tells; turns hold numbers of HALVES, not their places. */
    private static final class Told {
        private static final int UNTOLD = -1;

        private int halves;
        private int persons;
        private int deeds;
        private int likesTold;
        private int units;
        private int draw;
        private final int[] skill = new int[MOST_HALVES];
        private final int[] cares = new int[MOST_HALVES];
        private final int[] favour = new int[MOST_HALVES];
        private final int[] personOf = new int[MOST_HALVES];
        private final int[] placeOf = new int[MOST_HALVES];
        private final int[] liking = new int[MOST_HALVES * MOST_HALVES];
        private final int[] members = new int[MOST_PERSONS];
        private final int[] places = new int[MOST_PERSONS];
        private final int[] turn = new int[MOST_PERSONS * MOST_PLACES];
        private final int[] joyStart = new int[MOST_DEEDS];
        private final int[] loadStart = new int[MOST_DEEDS];
        private final int[] loadEnd = new int[MOST_DEEDS];
        /** Formulas with what joins behind what is joined: an N as itself, any other TOKEN below 0. */
        private final int[] code = new int[MOST_CODE];

        Told() {
            empty();
        }

        void empty() {
            halves = 0;
            persons = 0;
            deeds = 0;
            likesTold = 0;
            units = 0;
            draw = UNTOLD;
            Arrays.fill(favour, UNTOLD);
            Arrays.fill(personOf, NONE);
            Arrays.fill(liking, UNTOLD);
        }

        void copyFrom(Told other) {
            halves = other.halves;
            persons = other.persons;
            deeds = other.deeds;
            likesTold = other.likesTold;
            units = other.units;
            draw = other.draw;
            System.arraycopy(other.skill, 0, skill, 0, MOST_HALVES);
            System.arraycopy(other.cares, 0, cares, 0, MOST_HALVES);
            System.arraycopy(other.favour, 0, favour, 0, MOST_HALVES);
            System.arraycopy(other.personOf, 0, personOf, 0, MOST_HALVES);
            System.arraycopy(other.placeOf, 0, placeOf, 0, MOST_HALVES);
            System.arraycopy(other.liking, 0, liking, 0, MOST_HALVES * MOST_HALVES);
            System.arraycopy(other.members, 0, members, 0, MOST_PERSONS);
            System.arraycopy(other.places, 0, places, 0, MOST_PERSONS);
            System.arraycopy(other.turn, 0, turn, 0, MOST_PERSONS * MOST_PLACES);
            System.arraycopy(other.joyStart, 0, joyStart, 0, MOST_DEEDS);
            System.arraycopy(other.loadStart, 0, loadStart, 0, MOST_DEEDS);
            System.arraycopy(other.loadEnd, 0, loadEnd, 0, MOST_DEEDS);
            System.arraycopy(other.code, 0, code, 0, MOST_CODE);
        }

        boolean hasHalf(int half) {
            return half >= 0 && half < halves;
        }

        boolean hasPerson(int person) {
            return person >= 0 && person < persons;
        }

        boolean hasDeed(int deed) {
            return deed >= 0 && deed < deeds;
        }

        boolean hasPlace(int person, int place) {
            return place >= 0 && place < places[person];
        }

        boolean isMember(int person, int half) {
            return hasPerson(person) && hasHalf(half) && personOf[half] == person;
        }

        int favoured(int half) {
            return Math.max(0, favour[half]);
        }

        int liked(int half, int other) {
            return Math.max(0, liking[half * MOST_HALVES + other]);
        }
    }

    /** Reads a text into a draft; where it can't, it tells the first FAULT. */
    private static final class Reader {
        private static final int LEVEL_OR = 0;
        private static final int LEVEL_AND = 1;
        private static final int LEVEL_ONE = 2;
        private static final int LEVEL_SUM = 3;
        private static final int LEVEL_TERM = 4;
        private static final int LEVEL_UNIT = 5;
        private static final int LONGEST_WORD = 8;
        private static final int LONGEST_NUMBER = 4;

        private final Told draft = new Told();
        private final long[] halfNames = new long[MOST_HALVES];
        private final long[] personNames = new long[MOST_PERSONS];
        private final long[] deedNames = new long[MOST_DEEDS];
        /** HALVES of the PERSON that is read, by their places. */
        private final int[] memberAt = new int[MOST_MEMBERS];
        private final int[] text;
        private int length = 0;
        private int fault = 0;
        private int place = NONE;
        /** The TOKEN looked at: where it begins, what it is, its name or number, and the byte behind it. */
        private int start;
        private int token;
        private long name;
        private int number;
        private int behind;
        /** What was taken last. */
        private int taken;
        private int unitsOfOne;
        private int codeLength;

        Reader(int[] tape) {
            text = tape;
        }

        boolean read(int bytes) {
            length = Math.max(0, Math.min(bytes, text.length));
            draft.empty();
            fault = 0;
            place = NONE;
            behind = 0;
            codeLength = 0;
            advance();
            boolean fine = true;
            for (int i = 0; i < MOST_BYTES && fine && token != END; i++) {
                switch (token) {
                    case HALF: fine = halfLine(); break;
                    case LIKE: fine = likeLine(); break;
                    case PERSON: fine = personLine(); break;
                    case DEED: fine = deedLine(); break;
                    case FAVOUR: fine = favourLine(); break;
                    case DRAW: fine = drawLine(); break;
                    default: fine = refuse(FAULT_MISPLACED);
                }
                fine = fine && take(';');
            }
            return fine;
        }

        private boolean halfLine() {
            int half = draft.halves;
            if (half >= MOST_HALVES) {
                return refuse(FAULT_MISPLACED);
            }
            advance();
            if (!takeNewName(halfNames, half) || !take(SKILL) || !takeNumber(MOST_SKILL)) {
                return false;
            }
            draft.skill[half] = taken;
            draft.cares[half] = 0;
            if (token == CARES) {
                advance();
                if (!takeNumber(MOST_CARES)) {
                    return false;
                }
                draft.cares[half] = taken;
            }
            draft.halves++;
            return true;
        }

        private boolean likeLine() {
            if (draft.likesTold >= MOST_LIKES) {
                return refuse(FAULT_MISPLACED);
            }
            advance();
            if (!takeHalf()) {
                return false;
            }
            int half = taken;
            if (!take(TO)) {
                return false;
            }
            int other = halfNamed();
            if (other == half || other != NONE && draft.liking[half * MOST_HALVES + other] != Told.UNTOLD) {
                return refuse(FAULT_TOLD_ALREADY);
            }
            if (!takeHalf() || !takeNumber(MOST_LIKING)) {
                return false;
            }
            draft.liking[half * MOST_HALVES + other] = taken;
            draft.likesTold++;
            return true;
        }

        private boolean personLine() {
            int person = draft.persons;
            if (person >= MOST_PERSONS) {
                return refuse(FAULT_MISPLACED);
            }
            advance();
            if (!takeNewName(personNames, person) || !take(OF)) {
                return false;
            }
            draft.members[person] = 0;
            for (int i = 0; i < MOST_MEMBERS && (i < 2 || token == NAME); i++) {
                if (!takeMember(person)) {
                    return false;
                }
            }
            if (!take(TURN) || !takeTurn(person)) {
                return false;
            }
            draft.persons++;
            return true;
        }

        private boolean takeMember(int person) {
            int half = halfNamed();
            if (half != NONE && draft.personOf[half] != NONE) {
                return refuse(FAULT_TOLD_ALREADY);
            }
            if (!takeHalf()) {
                return false;
            }
            draft.personOf[half] = person;
            draft.placeOf[half] = draft.members[person];
            memberAt[draft.members[person]] = half;
            draft.members[person]++;
            return true;
        }

        private boolean takeTurn(int person) {
            draft.places[person] = 0;
            for (int i = 0; i < MOST_PLACES && (i == 0 || token == NUMBER); i++) {
                if (!takeNumber(draft.members[person] - 1)) {
                    return false;
                }
                draft.turn[person * MOST_PLACES + i] = memberAt[taken];
                draft.places[person]++;
            }
            return true;
        }

        private boolean deedLine() {
            int deed = draft.deeds;
            if (deed >= MOST_DEEDS) {
                return refuse(FAULT_MISPLACED);
            }
            advance();
            if (!takeNewName(deedNames, deed) || !take(JOY)) {
                return false;
            }
            unitsOfOne = 0;
            draft.joyStart[deed] = codeLength;
            if (!formula(LEVEL_OR, 0) || !take(LOAD)) {
                return false;
            }
            unitsOfOne = 0;
            draft.loadStart[deed] = codeLength;
            if (!formula(LEVEL_OR, 0)) {
                return false;
            }
            draft.loadEnd[deed] = codeLength;
            draft.deeds++;
            return true;
        }

        private boolean favourLine() {
            advance();
            int half = halfNamed();
            if (half != NONE && draft.favour[half] != Told.UNTOLD) {
                return refuse(FAULT_TOLD_ALREADY);
            }
            if (!takeHalf() || !takeNumber(MOST_FAVOURED)) {
                return false;
            }
            draft.favour[half] = taken;
            return true;
        }

        private boolean drawLine() {
            if (draft.draw != Told.UNTOLD) {
                return refuse(FAULT_MISPLACED);
            }
            advance();
            if (!takeNumber(MOST_SEED)) {
                return false;
            }
            draft.draw = taken;
            return true;
        }

        /** One level of the grammar of e; depth: within how many units ( e ) and nots this stands. */
        private boolean formula(int level, int depth) {
            if (level >= LEVEL_UNIT) {
                return unit(depth);
            }
            if (level == LEVEL_ONE && token == NOT) {
                if (depth >= MOST_NESTED) {
                    return refuse(FAULT_MISPLACED);
                }
                advance();
                return formula(LEVEL_ONE, depth + 1) && emit(-NOT);
            }
            if (!formula(level + 1, depth)) {
                return false;
            }
            // A relation stands once in a one; elsewhere the bound of units ends it.
            int most = level == LEVEL_ONE ? 1 : MOST_UNITS_OF_ONE;
            for (int i = 0; i < most && levelOf(token) == level; i++) {
                int joining = token;
                advance();
                if (!formula(level + 1, depth) || !emit(-joining)) {
                    return false;
                }
            }
            return true;
        }

        private static int levelOf(int token) {
            switch (token) {
                case OR: return LEVEL_OR;
                case AND: return LEVEL_AND;
                case '<': case '>': case '=': return LEVEL_ONE;
                case '+': case '-': return LEVEL_SUM;
                case '*': case '/': case '%': return LEVEL_TERM;
                default: return NONE;
            }
        }

        private boolean unit(int depth) {
            boolean tooDeep = token == '(' && depth >= MOST_NESTED;
            if (tooDeep || unitsOfOne >= MOST_UNITS_OF_ONE || draft.units >= MOST_UNITS) {
                return refuse(FAULT_MISPLACED);
            }
            unitsOfOne++;
            draft.units++;
            boolean fine;
            switch (token) {
                case NUMBER: fine = emit(number); break;
                case LOAD: case DAY: case SKILL: case AGAIN: fine = emit(-token); break;
                case '(':
                    advance();
                    fine = formula(LEVEL_OR, depth + 1) && (token == ')' || refuse(FAULT_MISPLACED));
                    break;
                default: fine = refuse(FAULT_MISPLACED);
            }
            if (fine) {
                advance();
            }
            return fine;
        }

        private boolean emit(int step) {
            if (codeLength < 0 || codeLength >= MOST_CODE) {
                return refuse(FAULT_MISPLACED);
            }
            draft.code[codeLength] = step;
            codeLength++;
            return true;
        }

        private boolean take(int wanted) {
            if (token != wanted) {
                return refuse(FAULT_MISPLACED);
            }
            advance();
            return true;
        }

        private boolean takeNewName(long[] names, int count) {
            if (token != NAME) {
                return refuse(FAULT_MISPLACED);
            }
            if (count < 0 || count >= names.length || indexOf(names, count) != NONE) {
                return refuse(FAULT_TOLD_ALREADY);
            }
            names[count] = name;
            advance();
            return true;
        }

        private int indexOf(long[] names, int count) {
            for (int i = 0; i < count && i < names.length; i++) {
                if (names[i] == name) {
                    return i;
                }
            }
            return NONE;
        }

        /** The HALF that the TOKEN looked at names; NONE if it names none. */
        private int halfNamed() {
            return token == NAME ? indexOf(halfNames, draft.halves) : NONE;
        }

        private boolean takeHalf() {
            int half = halfNamed();
            if (half == NONE) {
                return refuse(token == NAME ? FAULT_NO_HALF : FAULT_MISPLACED);
            }
            taken = half;
            advance();
            return true;
        }

        private boolean takeNumber(int most) {
            if (token != NUMBER) {
                return refuse(FAULT_MISPLACED);
            }
            if (number > most) {
                return refuse(FAULT_NUMBER);
            }
            taken = number;
            advance();
            return true;
        }

        /** The FAULT is at the TOKEN looked at; always false, so that callers can answer it. */
        private boolean refuse(int kind) {
            fault = token == BAD ? FAULT_NO_TOKEN : kind;
            place = start;
            return false;
        }

        private void advance() {
            start = behind;
            while (start < length && (text[start] == ' ' || text[start] == '\n')) {
                start++;
            }
            behind = start;
            if (start >= length) {
                token = END;
            } else if (isLetter(start)) {
                scanWord();
                token = behind - start > LONGEST_WORD ? BAD : wordToken(behind - start);
            } else if (isDigit(start)) {
                scanNumber();
            } else {
                behind++;
                token = isSign(text[start]) ? text[start] : BAD;
            }
        }

        private void scanWord() {
            name = 0;
            while (behind < length && isLetter(behind)) {
                name = name * 27 + (text[behind] - 'a' + 1);
                behind++;
            }
        }

        private void scanNumber() {
            number = 0;
            while (behind < length && isDigit(behind)) {
                number = number * 10 + (text[behind] - '0');
                behind++;
            }
            token = behind - start > LONGEST_NUMBER || isLetter(behind) ? BAD : NUMBER;
        }

        private boolean isLetter(int i) {
            return i >= 0 && i < length && text[i] >= 'a' && text[i] <= 'z';
        }

        private boolean isDigit(int i) {
            return i >= 0 && i < length && text[i] >= '0' && text[i] <= '9';
        }

        private static boolean isSign(int sign) {
            switch (sign) {
                case ';': case '(': case ')': case '<': case '>': case '=':
                case '+': case '-': case '*': case '/': case '%':
                    return true;
                default:
                    return false;
            }
        }

        /** Of a word of so many letters from start on: itself, if it stands for itself, else NAME. */
        private int wordToken(int letters) {
            for (int slot = 0; letters <= WORD_SLOT && slot + WORD_SLOT <= WORDS.length(); slot += WORD_SLOT) {
                int same = 0;
                while (same < letters && text[start + same] == WORDS.charAt(slot + same)) {
                    same++;
                }
                if (same == letters && (letters == WORD_SLOT || WORDS.charAt(slot + letters) == ' ')) {
                    return FIRST_WORD + slot / WORD_SLOT;
                }
            }
            return NAME;
        }
    }

    /** All that ACTS change. */
    private static final class State {
        private int day = 0;
        private int seed = 0;
        private final int[] load = new int[MOST_PERSONS];
        private final int[] turn = new int[MOST_PERSONS * MOST_PLACES];
        private final int[] alive = new int[MOST_HALVES];
        private final int[] did = new int[MOST_HALVES * MOST_DEEDS];
        private final int[] joys = new int[MOST_HALVES];

        void begin(Told told) {
            day = 0;
            seed = Math.max(0, told.draw);
            Arrays.fill(load, 0);
            System.arraycopy(told.turn, 0, turn, 0, MOST_PERSONS * MOST_PLACES);
            Arrays.fill(alive, 1);
            Arrays.fill(did, 0);
            Arrays.fill(joys, 0);
        }

        void copyFrom(State other) {
            day = other.day;
            seed = other.seed;
            System.arraycopy(other.load, 0, load, 0, MOST_PERSONS);
            System.arraycopy(other.turn, 0, turn, 0, MOST_PERSONS * MOST_PLACES);
            System.arraycopy(other.alive, 0, alive, 0, MOST_HALVES);
            System.arraycopy(other.did, 0, did, 0, MOST_HALVES * MOST_DEEDS);
            System.arraycopy(other.joys, 0, joys, 0, MOST_HALVES);
        }

        int howOften(int half, int deed) {
            return did[half * MOST_DEEDS + deed];
        }

        void exchangePlaces(int person, int a, int b) {
            int base = person * MOST_PLACES;
            int half = turn[base + a];
            turn[base + a] = turn[base + b];
            turn[base + b] = half;
        }

        /** The first place comes last. */
        void goOn(int person, int places) {
            for (int i = 0; i + 1 < places && i + 1 < MOST_PLACES; i++) {
                exchangePlaces(person, i, i + 1);
            }
        }
    }

    /** The latest ACTS, each by what was before and behind it, and the BOXES. */
    private static final class History {
        private static final int ROUND = MOST_ACTS + 1;

        /** States go round and round; the one of now is past places behind the first. */
        private final State[] kept = new State[ROUND];
        private final State[] boxes = new State[BOXES];
        private final boolean[] filled = new boolean[BOXES];
        private int first = 0;
        private int past = 0;
        private int future = 0;

        void restart(State now) {
            first = 0;
            past = 0;
            future = 0;
            keepAt(0, now);
        }

        void keepAct(State now) {
            if (past >= MOST_ACTS) {
                first = (first + 1) % ROUND;
            } else {
                past++;
            }
            future = 0;
            keepAt((first + past) % ROUND, now);
        }

        private void keepAt(int i, State now) {
            if (i < 0 || i >= ROUND) {
                return;
            }
            if (kept[i] == null) {
                kept[i] = new State();
            }
            kept[i].copyFrom(now);
        }

        boolean stepBack(State now) {
            if (past <= 0) {
                return false;
            }
            past--;
            future++;
            return fetch(now);
        }

        boolean stepForth(State now) {
            if (future <= 0) {
                return false;
            }
            past++;
            future--;
            return fetch(now);
        }

        private boolean fetch(State now) {
            State then = kept[(first + past) % ROUND];
            if (then == null) {
                return false;
            }
            now.copyFrom(then);
            return true;
        }

        void emptyBoxes() {
            for (int box = 0; box < BOXES; box++) {
                filled[box] = false;
            }
        }

        void fillBox(int box, State now) {
            if (boxes[box] == null) {
                boxes[box] = new State();
            }
            boxes[box].copyFrom(now);
            filled[box] = true;
        }

        boolean takeFromBox(int box, State now) {
            if (!filled[box] || boxes[box] == null) {
                return false;
            }
            now.copyFrom(boxes[box]);
            return true;
        }
    }

    /** How DAYS go: who is IN, what comes of DEEDS, what is CHOSEN, who is elected. */
    private static final class Course {
        private final Told told;
        private final State now;
        private final int[] stack = new int[MOST_UNITS_OF_ONE];
        private final int[] votes = new int[MOST_FAVOURED + 1];
        /** How things stand on the DAY looked at. */
        private int day;
        private int skill;
        private int again;
        /** Of the DEED that greedyDeed answered last. */
        private int greatestJoy;

        Course(Told told, State now) {
            this.told = told;
            this.now = now;
        }

        /** NONE: NOBODY. */
        int whoIn(int person, int onDay) {
            if (!told.hasPerson(person) || onDay < 0 || told.places[person] < 1) {
                return NONE;
            }
            int half = now.turn[person * MOST_PLACES + onDay % told.places[person]];
            return told.hasHalf(half) && now.alive[half] == 1 ? half : NONE;
        }

        /** Looks at a DAY of a PERSON, as joyOf, loadAfter and greedyDeed need it; answers who is IN. */
        int stand(int person, int onDay) {
            int half = whoIn(person, onDay);
            day = onDay;
            skill = told.hasHalf(half) ? told.skill[half] : 0;
            again = half != NONE && whoIn(person, onDay - 1) == half ? 1 : 0;
            return half;
        }

        int joyOf(int deed, int load) {
            return told.hasDeed(deed) ? evaluate(told.joyStart[deed], told.loadStart[deed], load) : 0;
        }

        int loadAfter(int deed, int load) {
            if (!told.hasDeed(deed)) {
                return load;
            }
            int plain = evaluate(told.loadStart[deed], told.loadEnd[deed], load);
            return Math.max(0, Math.min(MOST_LOAD, plain));
        }

        private int evaluate(int from, int to, int load) {
            int top = 0;
            for (int i = Math.max(0, from); i < to && i < MOST_CODE; i++) {
                int step = told.code[i];
                if (step == -NOT && top >= 1) {
                    stack[top - 1] = stack[top - 1] == 0 ? 1 : 0;
                } else if (isOperand(step) && top < stack.length) {
                    stack[top] = step >= 0 ? step : standing(-step, load);
                    top++;
                } else if (top >= 2) {
                    top--;
                    stack[top - 1] = join(-step, stack[top - 1], stack[top]);
                }
            }
            return stack[0];
        }

        private static boolean isOperand(int step) {
            return step >= 0 || step == -LOAD || step == -DAY || step == -SKILL || step == -AGAIN;
        }

        private int standing(int word, int load) {
            switch (word) {
                case LOAD: return load;
                case DAY: return day;
                case SKILL: return skill;
                default: return again;
            }
        }

        private static int join(int sign, int a, int b) {
            switch (sign) {
                case '+': return a + b;
                case '-': return a - b;
                case '*': return a * b;
                case '/': return b == 0 ? 0 : a / b;
                case '%': return b == 0 ? 0 : a % b;
                case '<': return a < b ? 1 : 0;
                case '>': return a > b ? 1 : 0;
                case '=': return a == b ? 1 : 0;
                case AND: return a != 0 && b != 0 ? 1 : 0;
                default: return a != 0 || b != 0 ? 1 : 0;
            }
        }

        /** The DEED of the greatest JOY on the DAY looked at; NONE without DEEDS. */
        private int greedyDeed(int load) {
            int best = NONE;
            for (int deed = 0; deed < told.deeds; deed++) {
                int joy = joyOf(deed, load);
                if (best == NONE || joy > greatestJoy) {
                    best = deed;
                    greatestJoy = joy;
                }
            }
            return best;
        }

        /** JOY of a HALF on so many DAYS from one on, if all are GREEDY. */
        int greedyJoy(int person, int half, int from, int loadThen, int count) {
            int sum = 0;
            int load = loadThen;
            for (int i = 0; i < count; i++) {
                int in = stand(person, from + i);
                int deed = in == NONE ? NONE : greedyDeed(load);
                if (deed != NONE) {
                    sum += in == half ? greatestJoy : 0;
                    load = loadAfter(deed, load);
                }
            }
            return sum;
        }

        /** What who is IN on a DAY CHOOSES; NONE: nothing. */
        int chosen(int person, int onDay, int load, int cares) {
            int half = whoIn(person, onDay);
            int best = NONE;
            int most = 0;
            for (int deed = 0; deed < told.deeds && half != NONE; deed++) {
                stand(person, onDay);
                int joy = joyOf(deed, load);
                int sum = joy + greedyJoy(person, half, onDay + 1, loadAfter(deed, load), cares);
                if (best == NONE || sum > most) {
                    best = deed;
                    most = sum;
                }
            }
            return best;
        }

        /** The coming DAY goes by; a PERSON (or NONE) does a DEED by decree. */
        void passDay(int decreed, int decreedDeed) {
            for (int person = 0; person < told.persons; person++) {
                int half = whoIn(person, now.day);
                if (half != NONE) {
                    int deed = person == decreed ? decreedDeed
                        : chosen(person, now.day, now.load[person], told.cares[half]);
                    carryOut(person, deed);
                }
            }
            now.day++;
        }

        private void carryOut(int person, int deed) {
            int half = stand(person, now.day);
            if (half == NONE || !told.hasDeed(deed)) {
                return;
            }
            int load = now.load[person];
            now.joys[half] += joyOf(deed, load);
            now.did[half * MOST_DEEDS + deed]++;
            now.load[person] = loadAfter(deed, load);
        }

        /** Who is elected on a DAY; NONE if nobody votes. */
        int winnerOn(int onDay) {
            Arrays.fill(votes, 0);
            for (int person = 0; person < told.persons; person++) {
                addVote(whoIn(person, onDay));
            }
            return winner();
        }

        int mostFavoured() {
            Arrays.fill(votes, 0);
            for (int half = 0; half < told.halves; half++) {
                addVote(now.alive[half] == 1 ? half : NONE);
            }
            return winner();
        }

        private void addVote(int half) {
            if (told.hasHalf(half)) {
                votes[Math.min(MOST_FAVOURED, told.favoured(half))]++;
            }
        }

        private int winner() {
            int best = NONE;
            int most = 0;
            for (int i = 0; i <= MOST_FAVOURED; i++) {
                if (votes[i] > most) {
                    best = i;
                    most = votes[i];
                }
            }
            return best;
        }

        int daysLost(int n) {
            int wanted = mostFavoured();
            int lost = 0;
            for (int i = 0; i < n; i++) {
                int winner = winnerOn(now.day + i);
                if (winner == NONE || winner != wanted) {
                    lost++;
                }
            }
            return lost;
        }
    }

    /** What is asked of a PERSON for DAYS to come: PLAYED, TOGETHER and the BARGAIN. */
    private static final class Game {
        private static final int LOADS = MOST_LOAD + 1;
        private static final int CELLS = MOST_DAYS_ASKED * LOADS;
        private static final int UNSOLVED = -2;

        private final Told told;
        private final State now;
        private final Course course;
        /** By DAY and LOAD: what is done. */
        private final int[] choice = new int[CELLS];
        /** PLAYED, by DAY, LOAD and member: his JOY from then to the end. */
        private final int[] worth = new int[CELLS * MOST_MEMBERS];
        /** TOGETHER, by DAY and LOAD: JOY of all from then to the end, at most and at least, if sums did not wrap. */
        private final long[] most = new long[CELLS];
        private final long[] least = new long[CELLS];
        private final Row bargain = new Row(MOST_TOLD_IN_BARGAIN);
        private int person;
        private int length;

        Game(Told told, State now, Course course) {
            this.told = told;
            this.now = now;
            this.course = course;
        }

        private void begin(int whose, int n) {
            person = whose;
            length = Math.max(0, Math.min(MOST_DAYS_ASKED, n));
            Arrays.fill(choice, UNSOLVED);
        }

        private static int cell(int t, int load) {
            return t * LOADS + Math.max(0, Math.min(MOST_LOAD, load));
        }

        /** PLAYED: JOY of a member; the row is told. */
        int playEach(int whose, int member, int n, Row row) {
            begin(whose, n);
            int load = now.load[whose];
            solveEach(0, load);
            tellRow(row);
            return worthAt(0, load, member);
        }

        /** Only LOADS that can come about are solved, each once; the DAYS asked bound the depth. */
        private void solveEach(int t, int load) {
            if (t >= length || choice[cell(t, load)] != UNSOLVED) {
                return;
            }
            int half = course.whoIn(person, now.day + t);
            int best = NONE;
            int bestSum = 0;
            int bestJoy = 0;
            int bestLoad = load;
            for (int deed = 0; deed < told.deeds && half != NONE; deed++) {
                course.stand(person, now.day + t);
                int joy = course.joyOf(deed, load);
                int loadThen = course.loadAfter(deed, load);
                solveEach(t + 1, loadThen);
                int sum = joy + worthAt(t + 1, loadThen, told.placeOf[half]);
                if (best == NONE || sum > bestSum) {
                    best = deed;
                    bestSum = sum;
                    bestJoy = joy;
                    bestLoad = loadThen;
                }
            }
            if (best == NONE) {
                solveEach(t + 1, load);
            }
            settle(cell(t, load), t + 1, bestLoad);
            choice[cell(t, load)] = best;
            if (best != NONE) {
                worth[cell(t, load) * MOST_MEMBERS + told.placeOf[half]] += bestJoy;
            }
        }

        private void settle(int cell, int t, int load) {
            for (int member = 0; member < MOST_MEMBERS; member++) {
                worth[cell * MOST_MEMBERS + member] = worthAt(t, load, member);
            }
        }

        private int worthAt(int t, int load, int member) {
            return t >= length ? 0 : worth[cell(t, load) * MOST_MEMBERS + member];
        }

        void tellRow(Row row) {
            int load = now.load[person];
            for (int t = 0; t < length; t++) {
                int deed = choice[cell(t, load)];
                row.add(deed);
                if (deed != NONE) {
                    course.stand(person, now.day + t);
                    load = course.loadAfter(deed, load);
                }
            }
        }

        /** TOGETHER, if sums did not wrap. */
        void playAll(int whose, int n) {
            begin(whose, n);
            solveAll(0, now.load[whose]);
        }

        /** As solveEach, for all, with sums that do not wrap. */
        private void solveAll(int t, int load) {
            if (t >= length || choice[cell(t, load)] != UNSOLVED) {
                return;
            }
            int half = course.whoIn(person, now.day + t);
            int best = NONE;
            long high = 0;
            long low = 0;
            for (int deed = 0; deed < told.deeds && half != NONE; deed++) {
                course.stand(person, now.day + t);
                int joy = course.joyOf(deed, load);
                int loadThen = course.loadAfter(deed, load);
                solveAll(t + 1, loadThen);
                long atMost = joy + mostAt(t + 1, loadThen);
                long atLeast = joy + leastAt(t + 1, loadThen);
                low = best == NONE ? atLeast : Math.min(low, atLeast);
                if (best == NONE || atMost > high) {
                    best = deed;
                    high = atMost;
                }
            }
            if (best == NONE) {
                solveAll(t + 1, load);
                high = mostAt(t + 1, load);
                low = leastAt(t + 1, load);
            }
            choice[cell(t, load)] = best;
            most[cell(t, load)] = high;
            least[cell(t, load)] = low;
        }

        long mostAt(int t, int load) {
            return t >= length ? 0 : most[cell(t, load)];
        }

        private long leastAt(int t, int load) {
            return t >= length ? 0 : least[cell(t, load)];
        }

        /** False if sums of all rows from here on, behind such a sum, wrap as often: then what is more stays more. */
        boolean canWrap(int t, int load, int sum) {
            if (t >= length) {
                return false;
            }
            long base = (long) sum - LEAST_INT;
            return (base + least[cell(t, load)]) >> INT_BITS != (base + most[cell(t, load)]) >> INT_BITS;
        }

        private int deedOn(int t) {
            return bargain.size < 1 ? NONE : bargain.at(t % bargain.size);
        }

        /** JOY of a HALF on the DAYS from the t-th to the n-th, the BARGAIN kept. */
        int keptJoy(int whose, int half, int from, int loadThen, int n) {
            int sum = 0;
            int load = loadThen;
            for (int t = from; t < n; t++) {
                int in = course.stand(whose, now.day + t);
                if (in != NONE) {
                    sum += in == half ? course.joyOf(deedOn(t), load) : 0;
                    load = course.loadAfter(deedOn(t), load);
                }
            }
            return sum;
        }

        int firstBreak(int whose, int n) {
            int load = now.load[whose];
            for (int t = 0; t < n; t++) {
                if (course.whoIn(whose, now.day + t) != NONE) {
                    if (isBetterBroken(whose, t, load, n)) {
                        return t;
                    }
                    course.stand(whose, now.day + t);
                    load = course.loadAfter(deedOn(t), load);
                }
            }
            return NONE;
        }

        private boolean isBetterBroken(int whose, int t, int load, int n) {
            int half = course.whoIn(whose, now.day + t);
            int kept = keptJoy(whose, half, t, load, n);
            for (int deed = 0; deed < told.deeds; deed++) {
                if (deed != deedOn(t)) {
                    course.stand(whose, now.day + t);
                    int joy = course.joyOf(deed, load);
                    int loadThen = course.loadAfter(deed, load);
                    if (joy + course.greedyJoy(whose, half, now.day + t + 1, loadThen, n - 1 - t) > kept) {
                        return true;
                    }
                }
            }
            return false;
        }

        int fewestCares(int whose, int n) {
            int enough = (1 << (MOST_CARES + 1)) - 1;
            int load = now.load[whose];
            for (int t = 0; t < n; t++) {
                int day = now.day + t;
                if (course.whoIn(whose, day) != NONE) {
                    for (int cares = 0; cares <= MOST_CARES; cares++) {
                        if ((enough >> cares & 1) == 1 && course.chosen(whose, day, load, cares) != deedOn(t)) {
                            enough &= ~(1 << cares);
                        }
                    }
                    course.stand(whose, day);
                    load = course.loadAfter(deedOn(t), load);
                }
            }
            for (int cares = 0; cares <= MOST_CARES; cares++) {
                if ((enough >> cares & 1) == 1) {
                    return cares;
                }
            }
            return NONE;
        }
    }

    /** The sums of JOY, wrapped, that can come from a DAY and a LOAD to the end of a game, known where there is room. */
    private static final class Sums {
        private static final int UNKNOWN = -1;
        private static final int NO_ROOM = -1;
        /** More bits at a time would take too long. */
        private static final int MOST_MARKED = 1024;
        /** A bit's number without so many of its own bits is that of the int it is in. */
        private static final int BIT_BITS = 5;
        /** In the place of a LOAD: an earlier DEED does the same there, so this one is no way of its own. */
        private static final int SAME = -1;

        private final Told told;
        private final Game game;
        /** By DAY, LOAD and DEED: its JOY, and the LOAD then. */
        private final int[] joys = new int[Game.CELLS * MOST_DEEDS];
        private final int[] loads = new int[Game.CELLS * MOST_DEEDS];
        /** What is known, by DAY and LOAD (those behind the last DAY, too): where it starts, how many; they rise. */
        private final int[] known;
        private final int[] starts = new int[Game.CELLS + Game.LOADS];
        private final int[] counts = new int[Game.CELLS + Game.LOADS];
        private int used = 0;
        /** Where the sums in a stretch of ints are merged: how far each is behind its start, from LEAST_INT on; they rise. */
        private final int[] pool;
        private final int[] merged;
        private int stretchStart = 0;
        private int stretchCount = 0;
        /** The last sum that came before the stretch. */
        private int sumBefore = 0;
        /** Bits, one for so many ints of the stretch each: are sums there wanted? Without the sieve all are. */
        private final int[] sieve;
        private boolean isSieved = false;
        private int sieveShift = 0;
        private final int[] row = new int[MOST_DAYS_ASKED];

        Sums(Told told, Game game, int room, int sieveRoom) {
            this.told = told;
            this.game = game;
            known = new int[Math.max(1, room)];
            pool = new int[Math.max(1, room / 4)];
            merged = new int[Math.max(1, room / 4)];
            sieve = new int[Math.max(1, sieveRoom)];
        }

        void begin() {
            isSieved = false;
            for (int t = 0; t < game.length; t++) {
                game.course.stand(game.person, game.now.day + t);
                for (int load = 0; load < Game.LOADS; load++) {
                    counts[Game.cell(t, load)] = UNKNOWN;
                    if (isReached(t, load)) {
                        lookUp(t, load);
                    }
                }
            }
            known[0] = 0;
            used = 1;
            for (int load = 0; load < Game.LOADS; load++) {
                starts[Game.cell(game.length, load)] = 0;
                counts[Game.cell(game.length, load)] = 1;
            }
            for (int t = game.length - 1; t >= 0; t--) {
                for (int load = 0; load < Game.LOADS; load++) {
                    if (isReached(t, load) && isKnownBehind(t, load)) {
                        gather(t, load);
                    }
                }
            }
        }

        private boolean isReached(int t, int load) {
            return game.choice[Game.cell(t, load)] != Game.UNSOLVED;
        }

        /** How many DEEDS can be done there; where nothing is done, that is one way, too. */
        private int ways(int t, int load) {
            return game.choice[Game.cell(t, load)] == NONE ? 1 : told.deeds;
        }

        private static int place(int t, int load, int way) {
            return Game.cell(t, load) * MOST_DEEDS + Math.max(0, Math.min(MOST_DEEDS - 1, way));
        }

        private void lookUp(int t, int load) {
            boolean idle = game.choice[Game.cell(t, load)] == NONE;
            for (int way = 0; way < ways(t, load); way++) {
                int joy = idle ? 0 : game.course.joyOf(way, load);
                int then = idle ? load : game.course.loadAfter(way, load);
                joys[place(t, load, way)] = joy;
                loads[place(t, load, way)] = then;
                for (int other = 0; other < way; other++) {
                    if (joys[place(t, load, other)] == joy && loads[place(t, load, other)] == then) {
                        loads[place(t, load, way)] = SAME;
                    }
                }
            }
        }

        boolean isKnown(int t, int load) {
            return counts[Game.cell(t, load)] != UNKNOWN;
        }

        private boolean isKnownBehind(int t, int load) {
            for (int way = 0; way < ways(t, load); way++) {
                int then = loads[place(t, load, way)];
                if (then != SAME && !isKnown(t + 1, then)) {
                    return false;
                }
            }
            return true;
        }

        private void gather(int t, int load) {
            int count = merge(t, load, LEAST_INT, ALL_INTS, 0);
            if (count != NO_ROOM && used + count <= known.length) {
                System.arraycopy(pool, 0, known, used, count);
                starts[Game.cell(t, load)] = used;
                counts[Game.cell(t, load)] = count;
                used += count;
            }
        }

        /** Those sums from there on that lie in a stretch of ints come into the pool: how many; t bounds the depth. */
        private int merge(int t, int load, int start, long width, int at) {
            if (t >= game.length || isKnown(t, load)) {
                return slice(Game.cell(t, load), start, width, at);
            }
            int count = 0;
            for (int way = 0; way < ways(t, load); way++) {
                int place = place(t, load, way);
                if (loads[place] != SAME) {
                    int more = merge(t + 1, loads[place], start - joys[place], width, at + count);
                    if (more == NO_ROOM) {
                        return NO_ROOM;
                    }
                    count = unite(at, count, more);
                }
            }
            return count;
        }

        private int slice(int cell, int start, long width, int at) {
            int count = counts[cell];
            int first = lastUpTo(known, starts[cell], count, start - 1) + 1;
            int size = 0;
            for (int i = 0; i < count; i++) {
                // Ints are a round, so behind the greatest the least comes.
                int index = first + i < count ? first + i : first + i - count;
                long behind = known[starts[cell] + index] - start & INT_MASK;
                if (behind >= width) {
                    return size;
                }
                if (!isSieved || isWanted(behind)) {
                    if (at + size >= pool.length) {
                        return NO_ROOM;
                    }
                    pool[at + size] = (int) behind + LEAST_INT;
                    size++;
                }
            }
            return size;
        }

        /** Of a stretch only what is marked from now on is wanted; so many ints are marked at a time. */
        void beginSieve(long width, long markedAtOnce) {
            long bits = (long) sieve.length * INT_BITS;
            sieveShift = 0;
            for (int i = 0; i < INT_BITS && (width - 1 >> i >= bits || markedAtOnce >> i > MOST_MARKED); i++) {
                sieveShift = i + 1;
            }
            isSieved = true;
            long words = (width - 1 >> sieveShift >> BIT_BITS) + 1;
            Arrays.fill(sieve, 0, (int) Math.max(0, Math.min(sieve.length, words)), 0);
        }

        /** Ints are wanted that are so far behind the stretch's start. */
        void mark(long from, long to) {
            int first = (int) (from >> sieveShift);
            int last = (int) (to >> sieveShift);
            for (int word = Math.max(0, first >> BIT_BITS); word <= last >> BIT_BITS && word < sieve.length; word++) {
                int bits = word == first >> BIT_BITS ? -1 << first : -1;
                sieve[word] |= word == last >> BIT_BITS ? bits & -1 >>> INT_BITS - 1 - last : bits;
            }
        }

        /** Of a stretch only what is at most so far behind a sum is wanted from now on. */
        void sieveBehind(long width, long slack) {
            beginSieve(width, slack);
            long gap = stretchStart - sumBefore & INT_MASK;
            if (gap <= slack) {
                mark(0, Math.min(width - 1, slack - gap));
            }
            long marked = 0;
            for (int i = 0; i < stretchCount; i++) {
                long behind = pool[i] - LEAST_INT & INT_MASK;
                mark(Math.max(marked, behind), Math.min(width - 1, behind + slack));
                marked = Math.min(width - 1, behind + slack);
            }
        }

        private boolean isWanted(long behind) {
            int bit = (int) (behind >> sieveShift);
            int word = bit >> BIT_BITS;
            return word >= 0 && word < sieve.length && (sieve[word] >>> bit & 1) != 0;
        }

        /** The greatest sum that is not above a number of the stretch: in the stretch, or the one that came before. */
        int lastInStretch(int number) {
            int at = lastUpTo(pool, 0, stretchCount, number - stretchStart + LEAST_INT);
            return at < 0 ? sumBefore : pool[at] - LEAST_INT + stretchStart;
        }

        /** Two rows in the pool, the second behind the first, become one, with each number once. */
        private int unite(int at, int count, int more) {
            if (count == 0 || more == 0) {
                return count + more;
            }
            int i = at;
            int j = at + count;
            int size = 0;
            for (int n = 0; n < count + more && (i < at + count || j < at + count + more); n++) {
                int number = j >= at + count + more || i < at + count && pool[i] <= pool[j] ? pool[i] : pool[j];
                i += i < at + count && pool[i] == number ? 1 : 0;
                j += j < at + count + more && pool[j] == number ? 1 : 0;
                merged[size] = number;
                size++;
            }
            System.arraycopy(merged, 0, pool, at, size);
            return size;
        }

        /** Of rising numbers the place of the last that is not above a number; -1 if all are. */
        private static int lastUpTo(int[] numbers, int start, int count, int number) {
            int below = -1;
            int above = count;
            for (int i = 0; i < INT_BITS && above - below > 1; i++) {
                int between = (below + above) / 2;
                if (numbers[start + between] <= number) {
                    below = between;
                } else {
                    above = between;
                }
            }
            return below;
        }

        /** What makes a sum the greatest int of those that can come from there, where these are known. */
        int bestBehind(int t, int load, int sum) {
            int cell = Game.cell(t, load);
            int at = lastUpTo(known, starts[cell], counts[cell], GREATEST_INT - sum);
            return known[starts[cell] + (at < 0 ? counts[cell] - 1 : at)];
        }

        /** JOY of the best row, which is told; from the first DAY on all must be known. */
        int tellBest(int load, Row lying) {
            int best = bestBehind(0, load, 0);
            follow(0, load, best);
            tellRow(load, lying);
            return best;
        }

        /** The row goes on from there as the first by which such a sum comes, which is known to come. */
        void follow(int from, int fromLoad, int sum) {
            int load = fromLoad;
            int rest = sum;
            for (int t = from; t < game.length; t++) {
                int way = 0;
                while (way + 1 < ways(t, load) && !canCome(t, load, way, rest)) {
                    way++;
                }
                row[t] = way;
                rest -= joys[place(t, load, way)];
                load = loads[place(t, load, way)];
            }
        }

        private boolean canCome(int t, int load, int way, int sum) {
            int place = place(t, load, way);
            if (loads[place] == SAME) {
                return false;
            }
            int rest = sum - joys[place];
            int cell = Game.cell(t + 1, loads[place]);
            int at = lastUpTo(known, starts[cell], counts[cell], rest);
            return at >= 0 && known[starts[cell] + at] == rest;
        }

        void tellRow(int from, Row lying) {
            int load = from;
            for (int t = 0; t < game.length; t++) {
                lying.add(game.choice[Game.cell(t, load)] == NONE ? NONE : row[t]);
                load = loads[place(t, load, row[t])];
            }
        }
    }

    /**
     * TOGETHER where sums wrap and are too many to be known. What is most for the last DAYS need not be in what is most for all
     * then, so rows are met in their middle: the sums of the first DAYS (the front) with those of the last.
     */
    private static final class Search {
        private static final int SIEVE_ROOM = 1 << 17;
        private static final int MOST_IN_FRONT = 1 << 17;
        private static final long MOST_WEIGHT = 1L << 40;
        private static final long MOST_PATHS = 1L << 30;
        private static final int TRIED_DAYS = 3;
        /** One of a front: a LOAD, a sum, and the first row of DEEDS that leads there, so many bits for each DAY. */
        private static final int DEED_BITS = 3;
        private static final int FRONT_DAYS = 8;
        private static final int LEAD_BITS = DEED_BITS * FRONT_DAYS;
        private static final int LEAD_MASK = (1 << LEAD_BITS) - 1;
        private static final int LOAD_SHIFT = LEAD_BITS + INT_BITS;

        private final Game game;
        private final Sums sums;
        /** They rise: so those of a LOAD are together, and of those with one sum that of the first row is the first. */
        private long[] front = new long[MOST_IN_FRONT];
        private long[] spare = new long[MOST_IN_FRONT];
        private int frontCount;
        private int startDay;
        private int frontDay;
        /** By LOAD: where those of the front begin. */
        private final int[] blocks = new int[Game.LOADS + 1];
        /** By DAY and LOAD: how many sums there are to merge. */
        private final long[] weights = new long[Game.CELLS + Game.LOADS];
        /** By LOAD: how many of the front come to it by the middle DAY, each path counted. */
        private long[] flow = new long[Game.LOADS];
        private long[] flowThen = new long[Game.LOADS];
        private int middleDay;
        /** By DAY and LOAD: does a path lead from there to that LOAD of the middle DAY which is looked at? */
        private final boolean[] leads = new boolean[Game.CELLS + Game.LOADS];
        /** How far below the greatest int the sums may be that are looked for. */
        private long slack;
        /** Is it only marked which sums are wanted? */
        private boolean isMarking;
        /** JOY of a row that is known to be there, its first DEEDS, and to which DAY these lead; NONE: these are not known yet. */
        private int best;
        private int bestLead;
        private int bestDay;
        /** No sum is above it. */
        private int limit;

        Search(Told told, Game game) {
            this.game = game;
            sums = new Sums(told, game, MANY_SUMS, SIEVE_ROOM);
        }

        /** JOY of the best row, which is told. */
        int tellBest(int firstLoad, Row lying) {
            sums.begin();
            weigh();
            findLimit();
            Arrays.fill(sums.row, 0);
            best = LEAST_INT;
            // Where rows are very many, those that begin with the first DEED for long meet the limit, too: they come first.
            int t = (game.length - 1) / TRIED_DAYS * TRIED_DAYS;
            settleFrom(t, loadBehind(t, firstLoad), sumBehind(t, firstLoad));
            while (t > 0 && best != limit) {
                t = Math.max(0, t - TRIED_DAYS);
                settleFrom(t, loadBehind(t, firstLoad), sumBehind(t, firstLoad));
            }
            limit = best;
            for (int i = 0; i < game.length && bestDay > t; i++) {
                for (int lead = bestLead << INT_BITS - LEAD_BITS; t < bestDay && t < game.length; lead <<= DEED_BITS) {
                    sums.row[t] = lead >>> INT_BITS - DEED_BITS;
                    t++;
                }
                settleFrom(t, loadBehind(t, firstLoad), sumBehind(t, firstLoad));
            }
            int load = loadBehind(t, firstLoad);
            if (sums.isKnown(t, load)) {
                sums.follow(t, load, best - sumBehind(t, firstLoad));
            } else {
                followMost(t, load);
            }
            sums.tellRow(firstLoad, lying);
            return best;
        }

        /** The LOAD behind so many DAYS of the row. */
        private int loadBehind(int days, int firstLoad) {
            int load = firstLoad;
            for (int t = 0; t < days; t++) {
                load = sums.loads[Sums.place(t, load, sums.row[t])];
            }
            return load;
        }

        private int sumBehind(int days, int firstLoad) {
            int load = firstLoad;
            int sum = 0;
            for (int t = 0; t < days; t++) {
                sum += sums.joys[Sums.place(t, load, sums.row[t])];
                load = sums.loads[Sums.place(t, load, sums.row[t])];
            }
            return sum;
        }

        private void followMost(int from, int fromLoad) {
            int load = fromLoad;
            for (int t = from; t < game.length; t++) {
                sums.row[t] = Math.max(0, game.choice[Game.cell(t, load)]);
                load = sums.loads[Sums.place(t, load, sums.row[t])];
            }
        }

        private void weigh() {
            for (int t = game.length; t >= 0; t--) {
                for (int load = 0; load < Game.LOADS; load++) {
                    long weight = 0;
                    if (sums.isKnown(t, load)) {
                        weight = sums.counts[Game.cell(t, load)];
                    } else if (sums.isReached(t, load)) {
                        for (int way = 0; way < sums.ways(t, load); way++) {
                            int then = sums.loads[Sums.place(t, load, way)];
                            weight += then == Sums.SAME ? 0 : weights[Game.cell(t + 1, then)];
                        }
                    }
                    weights[Game.cell(t, load)] = Math.min(MOST_WEIGHT, weight);
                }
            }
        }

        /** Low bits that are alike in the JOY of all DEEDS on each DAY are settled in the sum, too. */
        private void findLimit() {
            int sum = 0;
            int unlike = 0;
            for (int t = 0; t < game.length; t++) {
                boolean isFirst = true;
                int first = 0;
                for (int load = 0; load < Game.LOADS; load++) {
                    for (int way = 0; sums.isReached(t, load) && way < sums.ways(t, load); way++) {
                        int joy = sums.joys[Sums.place(t, load, way)];
                        first = isFirst ? joy : first;
                        isFirst = false;
                        unlike |= joy - first;
                    }
                }
                sum += first;
            }
            int settled = unlike == 0 ? -1 : (unlike & -unlike) - 1;
            limit = GREATEST_INT - (GREATEST_INT - sum & settled);
        }

        /** Finds the best of the rows that go on from there; of like ones the DEEDS that the first begins with. */
        private void settleFrom(int t, int load, int sum) {
            bestDay = NONE;
            startDay = t;
            frontDay = t;
            if (isSettled(t, load, sum, 0)) {
                return;
            }
            front[0] = oneOf(load, sum, 0);
            frontCount = 1;
            for (int i = 0; i < FRONT_DAYS && frontCount > 0 && frontCount * MOST_DEEDS <= MOST_IN_FRONT; i++) {
                advanceFront();
            }
            if (frontCount == 0) {
                return;
            }
            findBlocks();
            chooseMiddle();
            for (int middleLoad = 0; middleLoad < Game.LOADS; middleLoad++) {
                if (flow[middleLoad] > 0) {
                    dropLater();
                    sweepTo(middleLoad);
                }
            }
        }

        /** True if the best that goes on from there is known at once; then it is kept, if it is better. */
        private boolean isSettled(int t, int load, int sum, int lead) {
            if (sums.isKnown(t, load)) {
                keep(sum + sums.bestBehind(t, load, sum), lead, t);
                return true;
            }
            if (!game.canWrap(t, load, sum)) {
                keep((int) (sum + game.mostAt(t, load)), lead, t);
                return true;
            }
            return false;
        }

        private void keep(int all, int lead, int day) {
            if (all > best || all == best && (bestDay == NONE || lead < bestLead)) {
                best = all;
                bestLead = lead;
                bestDay = day;
            }
        }

        private static long oneOf(int load, int sum, int lead) {
            return (long) load << LOAD_SHIFT | ((sum ^ LEAST_INT) & INT_MASK) << LEAD_BITS | lead;
        }

        private static int loadOf(long one) {
            return (int) (one >>> LOAD_SHIFT);
        }

        private static int sumOf(long one) {
            return (int) (one >>> LEAD_BITS) ^ LEAST_INT;
        }

        private static int leadOf(long one) {
            return (int) one & LEAD_MASK;
        }

        /** The front goes on by one DAY; what is settled there leaves it. */
        private void advanceFront() {
            int count = 0;
            int shift = DEED_BITS * (FRONT_DAYS - 1 - (frontDay - startDay));
            for (int i = 0; i < frontCount; i++) {
                int load = loadOf(front[i]);
                for (int way = 0; way < sums.ways(frontDay, load); way++) {
                    int place = Sums.place(frontDay, load, way);
                    int sum = sumOf(front[i]) + sums.joys[place];
                    int lead = leadOf(front[i]) | way << shift;
                    if (sums.loads[place] != Sums.SAME && !isSettled(frontDay + 1, sums.loads[place], sum, lead)) {
                        spare[count] = oneOf(sums.loads[place], sum, lead);
                        count++;
                    }
                }
            }
            frontDay++;
            frontCount = count;
            swapFront();
            sortFront();
            dropTwins();
        }

        private void swapFront() {
            long[] other = front;
            front = spare;
            spare = other;
        }

        private void sortFront() {
            for (int run = 1; run < frontCount; run *= 2) {
                for (int from = 0; from < frontCount; from += 2 * run) {
                    mergeRuns(from, Math.min(from + run, frontCount), Math.min(from + 2 * run, frontCount));
                }
                swapFront();
            }
        }

        private void mergeRuns(int from, int middle, int to) {
            int i = from;
            int j = middle;
            for (int at = from; at < to; at++) {
                if (j >= to || i < middle && front[i] <= front[j]) {
                    spare[at] = front[i];
                    i++;
                } else {
                    spare[at] = front[j];
                    j++;
                }
            }
        }

        private void dropTwins() {
            int count = 0;
            for (int i = 0; i < frontCount; i++) {
                if (count == 0 || front[i] >>> LEAD_BITS != front[count - 1] >>> LEAD_BITS) {
                    front[count] = front[i];
                    count++;
                }
            }
            frontCount = count;
        }

        /** Once the limit is met, only an earlier row can be better. */
        private void dropLater() {
            if (bestDay == NONE || best != limit) {
                return;
            }
            int count = 0;
            for (int i = 0; i < frontCount; i++) {
                if (leadOf(front[i]) < bestLead) {
                    front[count] = front[i];
                    count++;
                }
            }
            frontCount = count;
            findBlocks();
        }

        private void findBlocks() {
            int i = 0;
            for (int load = 0; load <= Game.LOADS; load++) {
                while (i < frontCount && loadOf(front[i]) < load) {
                    i++;
                }
                blocks[load] = i;
            }
        }

        /** Where what there is to do for the front, for its paths and for the sums to merge is least together. */
        private void chooseMiddle() {
            long paths = Math.min(frontCount, Game.LOADS);
            long fewest = 0;
            for (int day = frontDay; day <= game.length; day++) {
                flowTo(day);
                long cost = 0;
                for (int load = 0; load < Game.LOADS; load++) {
                    long weight = weights[Game.cell(day, load)];
                    cost += flow[load] > 0 ? 3 * flow[load] + weight + paths * (1 + weight * 4 / sums.pool.length) / 16 : 0;
                }
                if (day == frontDay || cost < fewest) {
                    fewest = cost;
                    middleDay = day;
                }
                paths = Math.min(MOST_PATHS, paths * MOST_DEEDS);
            }
            flowTo(middleDay);
        }

        private void flowTo(int day) {
            for (int load = 0; load < Game.LOADS; load++) {
                flow[load] = blocks[load + 1] - blocks[load];
            }
            for (int t = frontDay; t < day; t++) {
                Arrays.fill(flowThen, 0);
                for (int load = 0; load < Game.LOADS; load++) {
                    for (int way = 0; flow[load] > 0 && way < sums.ways(t, load); way++) {
                        int then = sums.loads[Sums.place(t, load, way)];
                        if (then != Sums.SAME) {
                            flowThen[then] += flow[load];
                        }
                    }
                }
                long[] other = flow;
                flow = flowThen;
                flowThen = other;
            }
        }

        /** Goes round all ints, stretch by stretch, from a sum on that can come from there. */
        private void sweepTo(int middleLoad) {
            markPaths(middleLoad);
            slack = (long) GREATEST_INT - best;
            int start = (int) game.mostAt(middleDay, middleLoad);
            // Marks are few among the sieve's bits so.
            long longest = Math.max(1, ALL_INTS / (1 + flow[middleLoad] / 4 / sums.sieve.length));
            long step = longest;
            long done = 0;
            sums.sumBefore = start;
            for (long i = 0; i < ALL_INTS && done < ALL_INTS && frontCount > 0; i++) {
                long width = Math.min(step, ALL_INTS - done);
                sums.stretchStart = start + (int) done;
                sums.beginSieve(width, slack);
                isMarking = true;
                for (int load = 0; load < Game.LOADS; load++) {
                    walk(frontDay, load, 0, load, width);
                }
                sums.stretchCount = sums.merge(middleDay, middleLoad, sums.stretchStart, width, 0);
                if (sums.stretchCount == Sums.NO_ROOM) {
                    step = Math.max(1, step / 2);
                } else {
                    isMarking = false;
                    sums.sieveBehind(width, slack);
                    for (int load = 0; load < Game.LOADS; load++) {
                        walk(frontDay, load, 0, load, width);
                    }
                    sums.sumBefore = sums.lastInStretch(sums.stretchStart + (int) (width - 1));
                    done += width;
                    step = sums.stretchCount < sums.pool.length / 8 ? Math.min(longest, step * 2) : step;
                }
            }
        }

        private void markPaths(int middleLoad) {
            for (int load = 0; load < Game.LOADS; load++) {
                leads[Game.cell(middleDay, load)] = load == middleLoad;
            }
            for (int t = middleDay - 1; t >= frontDay; t--) {
                for (int load = 0; load < Game.LOADS; load++) {
                    boolean any = false;
                    for (int way = 0; sums.isReached(t, load) && way < sums.ways(t, load); way++) {
                        int then = sums.loads[Sums.place(t, load, way)];
                        any = any || then != Sums.SAME && leads[Game.cell(t + 1, then)];
                    }
                    leads[Game.cell(t, load)] = any;
                }
            }
        }

        /** All paths to the middle for those of the front with one LOAD; t bounds the depth. */
        private void walk(int t, int load, int joy, int frontLoad, long width) {
            if (!leads[Game.cell(t, load)] || blocks[frontLoad] == blocks[frontLoad + 1]) {
                return;
            }
            if (t >= middleDay) {
                meet(frontLoad, joy, width);
                return;
            }
            for (int way = 0; way < sums.ways(t, load); way++) {
                int place = Sums.place(t, load, way);
                if (sums.loads[place] != Sums.SAME) {
                    walk(t + 1, sums.loads[place], joy + sums.joys[place], frontLoad, width);
                }
            }
        }

        /** Those of the front with one LOAD and some more JOY which need a sum of the stretch to be the greatest int. */
        private void meet(int load, int joy, long width) {
            int count = blocks[load + 1] - blocks[load];
            int at = lastInBlock(load, GREATEST_INT - joy - sums.stretchStart);
            // A sum at the stretch's end may be wanted by one that is behind it.
            long range = isMarking ? width + slack : width;
            long from = 0;
            for (int i = 0; i < count; i++) {
                at = at < 0 ? count - 1 : at;
                long one = front[blocks[load] + at];
                int sum = sumOf(one) + joy;
                long behind = GREATEST_INT - sum - sums.stretchStart & INT_MASK;
                if (behind >= range) {
                    return;
                }
                if (isMarking) {
                    from = Math.max(from, behind - slack);
                    sums.mark(from, Math.min(width - 1, behind));
                    from = Math.min(width - 1, behind);
                } else if (sums.isWanted(behind)) {
                    keep(sum + sums.lastInStretch(GREATEST_INT - sum), leadOf(one), frontDay);
                }
                at--;
            }
        }

        /** Of those of the front with one LOAD the place of the last whose sum is not above a number; -1 if all are. */
        private int lastInBlock(int load, int number) {
            int below = -1;
            int above = blocks[load + 1] - blocks[load];
            for (int i = 0; i < INT_BITS && above - below > 1; i++) {
                int between = (below + above) / 2;
                if (sumOf(front[blocks[load] + between]) <= number) {
                    below = between;
                } else {
                    above = between;
                }
            }
            return below;
        }
    }

    /** All PAIRINGS of HALVES that are alive, in their order. */
    private static final class Pairings {
        private static final int OPEN = -2;

        private final Told told;
        private final State now;
        /** By HALVES: the other one; himself, if he is left; OPEN, if that is not said yet (or he is dead). */
        private final int[] other = new int[MOST_HALVES];
        private final int[] most = new int[MOST_HALVES];
        private final int[] firstFast = new int[MOST_HALVES];
        private boolean found;
        private int mostLiking;
        private int firstFastLiking;
        private int fastOnes;

        Pairings(Told told, State now) {
            this.told = told;
            this.now = now;
        }

        void search() {
            int alive = 0;
            for (int half = 0; half < told.halves; half++) {
                alive += now.alive[half];
            }
            Arrays.fill(other, OPEN);
            found = false;
            fastOnes = 0;
            extend(0, alive % 2 == 1);
        }

        /** Less numbers are tried first, so PAIRINGS come in their order; the HALVES bound the depth. */
        private void extend(int from, boolean mayLeave) {
            int half = from;
            while (half < told.halves && !isOpen(half)) {
                half++;
            }
            if (half >= told.halves) {
                judge();
                return;
            }
            if (mayLeave) {
                other[half] = half;
                extend(half + 1, false);
                other[half] = OPEN;
            }
            for (int mate = half + 1; mate < told.halves; mate++) {
                if (isOpen(mate)) {
                    other[half] = mate;
                    other[mate] = half;
                    extend(half + 1, mayLeave);
                    other[half] = OPEN;
                    other[mate] = OPEN;
                }
            }
        }

        private boolean isOpen(int half) {
            return now.alive[half] == 1 && other[half] == OPEN;
        }

        private void judge() {
            int sum = 0;
            for (int half = 0; half < told.halves; half++) {
                sum += other[half] == OPEN ? 0 : likesHis(half);
            }
            if (!found || sum > mostLiking) {
                found = true;
                mostLiking = sum;
                System.arraycopy(other, 0, most, 0, MOST_HALVES);
            }
            if (isFast()) {
                if (fastOnes == 0) {
                    firstFastLiking = sum;
                    System.arraycopy(other, 0, firstFast, 0, MOST_HALVES);
                }
                fastOnes++;
            }
        }

        private int likesHis(int half) {
            return other[half] == half || !told.hasHalf(other[half]) ? -1 : told.liked(half, other[half]);
        }

        private boolean isFast() {
            for (int a = 0; a < told.halves; a++) {
                for (int b = a + 1; b < told.halves; b++) {
                    if (other[a] != OPEN && other[b] != OPEN && other[a] != b
                            && told.liked(a, b) > likesHis(a) && told.liked(b, a) > likesHis(b)) {
                        return false;
                    }
                }
            }
            return true;
        }

        void tellOthers(int[] pairs, Row row) {
            for (int half = 0; half < told.halves && half < pairs.length; half++) {
                row.add(pairs[half] == half || pairs[half] == OPEN ? NONE : pairs[half]);
            }
        }
    }

    /** What was seen, told and untold at TIMES, and what follows from it. */
    private static final class Sights {
        private final Told told;
        private final int[] day = new int[MOST_SIGHTS];
        /** NONE: it is a stranger's skill. */
        private final int[] half = new int[MOST_SIGHTS];
        private final int[] skill = new int[MOST_SIGHTS];
        private final int[] toldAt = new int[MOST_SIGHTS];
        /** NONE: not yet. */
        private final int[] untoldAt = new int[MOST_SIGHTS];
        private int count = 0;
        private int time = 0;
        /** By places of a turn: the HALF seen there, NONE if none was. */
        private final int[] seen = new int[MOST_PLACES];
        private final int[] shownAt = new int[MOST_STRANGER_DAYS];
        private int alibisFound;
        private int firstGoneOn;
        private int firstLess;
        private int firstGreater;
        private int possible;

        Sights(Told told) {
            this.told = told;
        }

        void clear() {
            count = 0;
        }

        int tell(int onDay, int ofHalf, int ofSkill) {
            if (onDay < 0 || onDay > LAST_SIGHT_DAY || count < 0 || count >= MOST_SIGHTS) {
                return NONE;
            }
            day[count] = onDay;
            half[count] = ofHalf;
            skill[count] = ofSkill;
            toldAt[count] = time;
            untoldAt[count] = NONE;
            count++;
            return count - 1;
        }

        boolean takeBack(int sight) {
            if (sight < 0 || sight >= count || untoldAt[sight] != NONE) {
                return false;
            }
            untoldAt[sight] = time;
            return true;
        }

        private boolean counts(int sight, int k) {
            return toldAt[sight] <= k && (untoldAt[sight] == NONE || untoldAt[sight] > k);
        }

        /** Finds ALIBIS as known at k: how many, the first of them, and who can have been IN on a DAY. */
        void searchAlibis(int person, int onDay, int k) {
            alibisFound = 0;
            possible = 0;
            int places = told.places[person];
            if (places < 1 || places > MOST_PLACES || !gatherSeen(person, k)) {
                return;
            }
            int asked = Math.floorMod(onDay, places);
            for (int goneOn = 0; goneOn < places; goneOn++) {
                tryAlibi(person, goneOn, NONE, NONE, asked);
                for (int less = 0; less < places; less++) {
                    for (int greater = less + 1; greater < places; greater++) {
                        tryAlibi(person, goneOn, less, greater, asked);
                    }
                }
            }
        }

        /** False if two were seen at one place: then nothing explains it. */
        private boolean gatherSeen(int person, int k) {
            Arrays.fill(seen, NONE);
            int places = told.places[person];
            boolean clash = false;
            for (int i = 0; i < count; i++) {
                if (told.isMember(person, half[i]) && counts(i, k) && places > 0) {
                    int place = day[i] % places;
                    clash = clash || seen[place] != NONE && seen[place] != half[i];
                    seen[place] = half[i];
                }
            }
            return !clash;
        }

        private void tryAlibi(int person, int goneOn, int less, int greater, int asked) {
            int places = told.places[person];
            for (int place = 0; place < places; place++) {
                if (seen[place] != NONE && seen[place] != wouldBeIn(person, goneOn, exchanged(place, less, greater))) {
                    return;
                }
            }
            if (alibisFound == 0) {
                firstGoneOn = goneOn;
                firstLess = less;
                firstGreater = greater;
            }
            alibisFound++;
            possible |= 1 << wouldBeIn(person, goneOn, exchanged(asked, less, greater));
        }

        private static int exchanged(int place, int less, int greater) {
            return place == less ? greater : place == greater ? less : place;
        }

        private int wouldBeIn(int person, int goneOn, int place) {
            int places = told.places[person];
            return places < 1 ? NONE : told.turn[person * MOST_PLACES + (place + goneOn) % places];
        }

        /** The least number of DAYS of a stranger's turn; NONE if there is none. */
        int strangerDays(int k) {
            for (int length = 1; length <= MOST_STRANGER_DAYS; length++) {
                if (explains(length, k)) {
                    return length;
                }
            }
            return NONE;
        }

        private boolean explains(int length, int k) {
            Arrays.fill(shownAt, NONE);
            for (int i = 0; i < count; i++) {
                if (half[i] == NONE && counts(i, k)) {
                    int place = length < 1 ? 0 : day[i] % length;
                    if (shownAt[place] != NONE && shownAt[place] != skill[i]) {
                        return false;
                    }
                    shownAt[place] = skill[i];
                }
            }
            return true;
        }

        int strangerHalves(int k) {
            int skills = 0;
            for (int i = 0; i < count; i++) {
                if (half[i] == NONE && counts(i, k)) {
                    skills |= 1 << skill[i];
                }
            }
            return Math.max(1, Integer.bitCount(skills));
        }
    }
}
