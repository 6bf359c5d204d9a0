import java.util.ArrayDeque;
import java.util.ArrayList;
import java.util.Arrays;
import java.util.Collections;
import java.util.Deque;
import java.util.HashMap;
import java.util.HashSet;
import java.util.List;
import java.util.Map;
import java.util.Set;

/** The document once more, written plainly with the whole library and without regard to speed. */
final class Model {
    private static final int NONE = -1;
    private static final int GAP = -1000000000;
    private static final Set<String> WORDS = new HashSet<>(Arrays.asList(
        ("half skill cares like to person of turn deed joy load favour draw or and not day again").split(" ")));

    private interface Formula {
        int of(int load, int day, int skill, int again);
    }

    private static final class Half {
        String name;
        int skill;
        int cares;
        int person = NONE;
        Integer favour;
        Map<Integer, Integer> likes = new HashMap<>();
    }

    private static final class Person {
        String name;
        List<Integer> halves = new ArrayList<>();
        List<Integer> turn = new ArrayList<>();
    }

    private static final class Deed {
        String name;
        Formula joy;
        Formula load;
    }

    private static final class Register {
        List<Half> halves = new ArrayList<>();
        List<Person> persons = new ArrayList<>();
        List<Deed> deeds = new ArrayList<>();
        int likes = 0;
        Integer draw;
        int units = 0;
    }

    private static final class Fault extends RuntimeException {
        private static final long serialVersionUID = 1L;
        final int kind;
        final int place;

        Fault(int kind, int place) {
            this.kind = kind;
            this.place = place;
        }
    }

    private static final class World {
        int day = 0;
        int seed = 0;
        List<Integer> loads = new ArrayList<>();
        List<List<Integer>> turns = new ArrayList<>();
        List<Boolean> alive = new ArrayList<>();
        Map<List<Integer>, Integer> did = new HashMap<>();
        Map<Integer, Integer> joys = new HashMap<>();

        World copy() {
            World w = new World();
            w.day = day;
            w.seed = seed;
            w.loads.addAll(loads);
            for (List<Integer> turn : turns) {
                w.turns.add(new ArrayList<>(turn));
            }
            w.alive.addAll(alive);
            w.did.putAll(did);
            w.joys.putAll(joys);
            return w;
        }
    }

    private static final class Sight {
        int day;
        int half;
        int skill;
        int told;
        Integer untold;
    }

    private final StringBuilder tape = new StringBuilder();
    private Register told = new Register();
    private World now = new World();
    private final Deque<World> past = new ArrayDeque<>();
    private final Deque<World> future = new ArrayDeque<>();
    private final Map<Integer, World> boxes = new HashMap<>();
    private final List<Integer> bargain = new ArrayList<>();
    private final List<Sight> sights = new ArrayList<>();
    private List<Integer> lying = new ArrayList<>();
    private int time = 0;
    private int faultKind = 0;
    private int faultPlace = NONE;

    // ---- reading

    int feed(int a, int b, int c, int d, int e) {
        if (tape.length() + 20 > 1600) {
            return NONE;
        }
        for (int number : new int[] {a, b, c, d, e}) {
            for (byte each : java.nio.ByteBuffer.allocate(4).putInt(number).array()) {
                tape.append((char) (each & 255));
            }
        }
        return tape.length();
    }

    int end(int n) {
        if (n < 0 || n > tape.length()) {
            return NONE;
        }
        tape.setLength(n);
        return n;
    }

    int register() {
        Register read;
        try {
            read = new Grammar(tape.toString()).register();
        } catch (Fault fault) {
            faultKind = fault.kind;
            faultPlace = fault.place;
            return NONE;
        }
        faultKind = 0;
        faultPlace = NONE;
        tape.setLength(0);
        told = read;
        now = new World();
        now.seed = read.draw == null ? 0 : read.draw;
        for (Person p : read.persons) {
            now.loads.add(0);
            now.turns.add(new ArrayList<>(p.turn));
        }
        for (int i = 0; i < read.halves.size(); i++) {
            now.alive.add(true);
        }
        past.clear();
        future.clear();
        boxes.clear();
        bargain.clear();
        sights.clear();
        lying = new ArrayList<>();
        return told.halves.size();
    }

    private static final class Token {
        final String text;
        final int place;
        final char kind;

        /** Kinds: w a word that stands for itself, n a NAME, 0 a number, s a sign, ! no TOKEN, . the end. */
        Token(String text, int place, char kind) {
            this.text = text;
            this.place = place;
            this.kind = kind;
        }
    }

    private static final class Grammar {
        final List<Token> tokens = new ArrayList<>();
        final Register r = new Register();
        int i = 0;
        int unitsOfOne;

        Grammar(String text) {
            int p = 0;
            while (p < text.length()) {
                char c = text.charAt(p);
                int q = p + 1;
                if (c == ' ' || c == '\n') {
                    p++;
                    continue;
                }
                if (c >= 'a' && c <= 'z') {
                    while (q < text.length() && text.charAt(q) >= 'a' && text.charAt(q) <= 'z') {
                        q++;
                    }
                    String word = text.substring(p, q);
                    tokens.add(new Token(word, p, word.length() > 8 ? '!' : WORDS.contains(word) ? 'w' : 'n'));
                } else if (c >= '0' && c <= '9') {
                    while (q < text.length() && text.charAt(q) >= '0' && text.charAt(q) <= '9') {
                        q++;
                    }
                    boolean letter = q < text.length() && text.charAt(q) >= 'a' && text.charAt(q) <= 'z';
                    tokens.add(new Token(text.substring(p, q), p, q - p > 4 || letter ? '!' : '0'));
                } else {
                    tokens.add(new Token(String.valueOf(c), p, ";()<>=+-*/%".indexOf(c) >= 0 ? 's' : '!'));
                }
                p = q;
            }
            tokens.add(new Token("", text.length(), '.'));
        }

        Token look() {
            return tokens.get(i);
        }

        Fault fault(int kind) {
            return new Fault(look().kind == '!' ? 1 : kind, look().place);
        }

        boolean at(String word) {
            return (look().kind == 'w' || look().kind == 's') && look().text.equals(word);
        }

        void must(String word) {
            if (!at(word)) {
                throw fault(2);
            }
            i++;
        }

        String name() {
            if (look().kind != 'n') {
                throw fault(2);
            }
            return look().text;
        }

        int halfCalled(String name) {
            for (int h = 0; h < r.halves.size(); h++) {
                if (r.halves.get(h).name.equals(name)) {
                    return h;
                }
            }
            return NONE;
        }

        int half() {
            int h = halfCalled(name());
            if (h == NONE) {
                throw fault(5);
            }
            return h;
        }

        int number(int least, int most) {
            if (look().kind != '0') {
                throw fault(2);
            }
            int n = Integer.parseInt(look().text);
            if (n < least || n > most) {
                throw fault(4);
            }
            i++;
            return n;
        }

        Register register() {
            while (look().kind != '.') {
                line();
                must(";");
            }
            return r;
        }

        void line() {
            if (at("half")) {
                if (r.halves.size() == 8) {
                    throw fault(2);
                }
                i++;
                Half h = new Half();
                h.name = name();
                if (halfCalled(h.name) != NONE) {
                    throw fault(3);
                }
                i++;
                must("skill");
                h.skill = number(0, 9);
                if (at("cares")) {
                    i++;
                    h.cares = number(0, 9);
                }
                r.halves.add(h);
            } else if (at("like")) {
                if (r.likes == 30) {
                    throw fault(2);
                }
                i++;
                int a = half();
                i++;
                must("to");
                int b = half();
                if (a == b || r.halves.get(a).likes.containsKey(b)) {
                    throw fault(3);
                }
                i++;
                r.halves.get(a).likes.put(b, number(0, 9));
                r.likes++;
            } else if (at("person")) {
                personLine();
            } else if (at("deed")) {
                deedLine();
            } else if (at("favour")) {
                i++;
                Half h = r.halves.get(half());
                if (h.favour != null) {
                    throw fault(3);
                }
                i++;
                h.favour = number(0, 2);
            } else if (at("draw")) {
                if (r.draw != null) {
                    throw fault(2);
                }
                i++;
                r.draw = number(0, 999);
            } else {
                throw fault(2);
            }
        }

        void personLine() {
            if (r.persons.size() == 4) {
                throw fault(2);
            }
            i++;
            Person p = new Person();
            p.name = name();
            for (Person other : r.persons) {
                if (other.name.equals(p.name)) {
                    throw fault(3);
                }
            }
            i++;
            must("of");
            while (p.halves.size() < 2 || p.halves.size() < 3 && look().kind == 'n') {
                int h = half();
                if (r.halves.get(h).person != NONE) {
                    throw fault(3);
                }
                r.halves.get(h).person = r.persons.size();
                p.halves.add(h);
                i++;
            }
            must("turn");
            do {
                if (p.turn.size() == 14) {
                    throw fault(2);
                }
                p.turn.add(p.halves.get(number(0, p.halves.size() - 1)));
            } while (look().kind == '0');
            r.persons.add(p);
        }

        void deedLine() {
            if (r.deeds.size() == 6) {
                throw fault(2);
            }
            i++;
            Deed d = new Deed();
            d.name = name();
            for (Deed other : r.deeds) {
                if (other.name.equals(d.name)) {
                    throw fault(3);
                }
            }
            i++;
            must("joy");
            unitsOfOne = 0;
            d.joy = either(0);
            must("load");
            unitsOfOne = 0;
            d.load = either(0);
            r.deeds.add(d);
        }

        Formula either(int within) {
            Formula left = both(within);
            while (at("or")) {
                i++;
                Formula a = left;
                Formula b = both(within);
                left = (l, d, s, g) -> a.of(l, d, s, g) != 0 | b.of(l, d, s, g) != 0 ? 1 : 0;
            }
            return left;
        }

        Formula both(int within) {
            Formula left = one(within);
            while (at("and")) {
                i++;
                Formula a = left;
                Formula b = one(within);
                left = (l, d, s, g) -> a.of(l, d, s, g) != 0 & b.of(l, d, s, g) != 0 ? 1 : 0;
            }
            return left;
        }

        Formula one(int within) {
            if (at("not")) {
                if (within > 6) {
                    throw fault(2);
                }
                i++;
                Formula a = one(within + 1);
                return (l, d, s, g) -> a.of(l, d, s, g) == 0 ? 1 : 0;
            }
            Formula a = sum(within);
            if (at("<")) {
                i++;
                Formula b = sum(within);
                return (l, d, s, g) -> a.of(l, d, s, g) < b.of(l, d, s, g) ? 1 : 0;
            }
            if (at(">")) {
                i++;
                Formula b = sum(within);
                return (l, d, s, g) -> a.of(l, d, s, g) > b.of(l, d, s, g) ? 1 : 0;
            }
            if (at("=")) {
                i++;
                Formula b = sum(within);
                return (l, d, s, g) -> a.of(l, d, s, g) == b.of(l, d, s, g) ? 1 : 0;
            }
            return a;
        }

        Formula sum(int within) {
            Formula left = term(within);
            while (at("+") || at("-")) {
                boolean plus = at("+");
                i++;
                Formula a = left;
                Formula b = term(within);
                left = plus ? (l, d, s, g) -> a.of(l, d, s, g) + b.of(l, d, s, g)
                    : (l, d, s, g) -> a.of(l, d, s, g) - b.of(l, d, s, g);
            }
            return left;
        }

        Formula term(int within) {
            Formula left = unit(within);
            while (at("*") || at("/") || at("%")) {
                char sign = look().text.charAt(0);
                i++;
                Formula a = left;
                Formula b = unit(within);
                left = (l, d, s, g) -> {
                    int x = a.of(l, d, s, g);
                    int y = b.of(l, d, s, g);
                    return sign == '*' ? x * y : y == 0 ? 0 : sign == '/' ? x / y : x % y;
                };
            }
            return left;
        }

        Formula unit(int within) {
            if (unitsOfOne == 30 || r.units == 90) {
                throw fault(2);
            }
            unitsOfOne++;
            r.units++;
            if (look().kind == '0') {
                int n = number(0, 9999);
                return (l, d, s, g) -> n;
            }
            if (at("(")) {
                if (within > 6) {
                    throw fault(2);
                }
                i++;
                Formula e = either(within + 1);
                must(")");
                return e;
            }
            if (!at("load") && !at("day") && !at("skill") && !at("again")) {
                throw fault(2);
            }
            String word = look().text;
            i++;
            return (l, d, s, g) -> word.equals("load") ? l : word.equals("day") ? d : word.equals("skill") ? s : g;
        }
    }

    int fault(int what) {
        return what == 0 ? faultKind : what == 1 ? faultPlace : NONE;
    }

    // ---- what is told

    private boolean isHalf(int h) {
        return h >= 0 && h < told.halves.size();
    }

    private boolean isPerson(int p) {
        return p >= 0 && p < told.persons.size();
    }

    private boolean isDeed(int d) {
        return d >= 0 && d < told.deeds.size();
    }

    private int favour(int h) {
        Integer f = told.halves.get(h).favour;
        return f == null ? 0 : f;
    }

    int half(int h, int what) {
        if (!isHalf(h) || what < 0 || what > 4) {
            return NONE;
        }
        Half half = told.halves.get(h);
        return new int[] {half.person, half.skill, half.cares, now.alive.get(h) ? 1 : 0, favour(h)}[what];
    }

    int likes(int a, int b) {
        return !isHalf(a) || !isHalf(b) || a == b ? NONE : told.halves.get(a).likes.getOrDefault(b, 0);
    }

    int person(int p, int what) {
        if (!isPerson(p) || what < 0 || what > 2) {
            return NONE;
        }
        Person person = told.persons.get(p);
        return new int[] {now.loads.get(p), person.turn.size(), person.halves.size()}[what];
    }

    // ---- days

    private int isIn(int p, int day) {
        List<Integer> turn = now.turns.get(p);
        int h = turn.get(day % turn.size());
        return now.alive.get(h) ? h : NONE;
    }

    int in(int p, int day) {
        return !isPerson(p) || day < 0 || day > 999 ? -2 : isIn(p, day);
    }

    private int value(Formula f, int p, int day, int load) {
        int h = isIn(p, day);
        return f.of(load, day, told.halves.get(h).skill, day > 0 && isIn(p, day - 1) == h ? 1 : 0);
    }

    private int joyAt(int p, int d, int day, int load) {
        return value(told.deeds.get(d).joy, p, day, load);
    }

    private int loadAt(int p, int d, int day, int load) {
        int l = value(told.deeds.get(d).load, p, day, load);
        return l < 0 ? 0 : l > 99 ? 99 : l;
    }

    private int greedy(int p, int day, int load) {
        int best = 0;
        for (int d = 1; d < told.deeds.size(); d++) {
            if (joyAt(p, d, day, load) > joyAt(p, best, day, load)) {
                best = d;
            }
        }
        return best;
    }

    /** JOY of h by d on a DAY and by GREEDY ones on so many behind it. */
    private int byDeed(int p, int h, int d, int day, int load, int behind) {
        int sum = joyAt(p, d, day, load);
        int l = loadAt(p, d, day, load);
        for (int t = day + 1; t <= day + behind; t++) {
            if (isIn(p, t) != NONE) {
                int g = greedy(p, t, l);
                if (isIn(p, t) == h) {
                    sum += joyAt(p, g, t, l);
                }
                l = loadAt(p, g, t, l);
            }
        }
        return sum;
    }

    private int choice(int p, int day, int load, int cares) {
        int h = isIn(p, day);
        if (h == NONE || told.deeds.isEmpty()) {
            return NONE;
        }
        List<Integer> sums = new ArrayList<>();
        for (int d = 0; d < told.deeds.size(); d++) {
            sums.add(byDeed(p, h, d, day, load, cares));
        }
        return sums.indexOf(Collections.max(sums));
    }

    int chooses(int p, int cares) {
        if (!isPerson(p) || cares < -1 || cares > 9) {
            return -2;
        }
        int h = isIn(p, now.day);
        return h == NONE ? NONE : choice(p, now.day, now.loads.get(p), cares == NONE ? told.halves.get(h).cares : cares);
    }

    int joy(int p, int d) {
        return !isPerson(p) || !isDeed(d) || isIn(p, now.day) == NONE ? GAP : joyAt(p, d, now.day, now.loads.get(p));
    }

    int record(int h, int d) {
        if (!isHalf(h) || d != NONE && !isDeed(d)) {
            return GAP;
        }
        return d == NONE ? now.joys.getOrDefault(h, 0) : now.did.getOrDefault(List.of(h, d), 0);
    }

    int guilt(int d, int h, int part) {
        if (!isHalf(h) || !isDeed(d) || part < 0 || part > 1) {
            return NONE;
        }
        int all = 0;
        for (int o = 0; o < told.halves.size(); o++) {
            all += record(o, d);
        }
        if (all == 0) {
            return part;
        }
        java.math.BigInteger gcd = java.math.BigInteger.valueOf(all).gcd(java.math.BigInteger.valueOf(record(h, d)));
        return (part == 0 ? record(h, d) : all) / gcd.intValue();
    }

    private void act() {
        past.addLast(now.copy());
        while (past.size() > 40) {
            past.removeFirst();
        }
        future.clear();
    }

    private void goBy(int decreed, int deed) {
        for (int p = 0; p < told.persons.size(); p++) {
            int h = isIn(p, now.day);
            int load = now.loads.get(p);
            if (h != NONE && !told.deeds.isEmpty()) {
                int d = p == decreed ? deed : choice(p, now.day, load, told.halves.get(h).cares);
                now.did.merge(List.of(h, d), 1, Integer::sum);
                now.joys.merge(h, joyAt(p, d, now.day, load), Integer::sum);
                now.loads.set(p, loadAt(p, d, now.day, load));
            }
        }
        now.day++;
    }

    int days(int n) {
        if (n < 0 || n > 60 || now.day + n > 900) {
            return NONE;
        }
        act();
        for (int i = 0; i < n; i++) {
            goBy(NONE, NONE);
        }
        return now.day;
    }

    int decree(int p, int d) {
        int joy = joy(p, d);
        if (!isPerson(p) || !isDeed(d) || isIn(p, now.day) == NONE || now.day == 900) {
            return GAP;
        }
        act();
        goBy(p, d);
        return joy;
    }

    boolean exchange(int p, int a, int b) {
        if (!isPerson(p) || a == b || Math.min(a, b) < 0 || Math.max(a, b) >= now.turns.get(p).size()) {
            return false;
        }
        act();
        Collections.swap(now.turns.get(p), a, b);
        return true;
    }

    int die(int h) {
        if (!isHalf(h)) {
            return NONE;
        }
        act();
        now.alive.set(h, !now.alive.get(h));
        return now.alive.get(h) ? 1 : 0;
    }

    int prank() {
        if (told.persons.isEmpty()) {
            return NONE;
        }
        act();
        now.seed = (137 * now.seed + 71) % 1000;
        int p = now.seed % told.persons.size();
        Collections.rotate(now.turns.get(p), -1);
        return p;
    }

    boolean undo() {
        if (past.isEmpty()) {
            return false;
        }
        future.addLast(now);
        now = past.removeLast();
        return true;
    }

    boolean redo() {
        if (future.isEmpty()) {
            return false;
        }
        past.addLast(now);
        now = future.removeLast();
        return true;
    }

    // ---- games

    private boolean asked(int p, int n) {
        return isPerson(p) && n >= 1 && n <= 20;
    }

    /** What is done from DAY t on and what comes of it: the row, then JOY by HALVES. */
    private int[][] game(int p, int t, int n, int load, Map<List<Integer>, int[][]> known) {
        if (t == n) {
            return new int[][] {new int[0], new int[told.halves.size()]};
        }
        int[][] solved = known.get(List.of(t, load));
        if (solved != null) {
            return solved;
        }
        int day = now.day + t;
        int h = isIn(p, day);
        int[][] best = null;
        if (h == NONE || told.deeds.isEmpty()) {
            int[][] rest = game(p, t + 1, n, load, known);
            best = new int[][] {before(NONE, rest[0]), rest[1]};
        }
        for (int d = 0; d < told.deeds.size() && h != NONE; d++) {
            int[][] rest = game(p, t + 1, n, loadAt(p, d, day, load), known);
            int[] joys = rest[1].clone();
            joys[h] += joyAt(p, d, day, load);
            if (best == null || joys[h] > best[1][h]) {
                best = new int[][] {before(d, rest[0]), joys};
            }
        }
        known.put(List.of(t, load), best);
        return best;
    }

    private static int[] before(int first, int[] rest) {
        int[] row = new int[rest.length + 1];
        row[0] = first;
        System.arraycopy(rest, 0, row, 1, rest.length);
        return row;
    }

    private void lay(int... numbers) {
        lying = new ArrayList<>();
        for (int number : numbers) {
            lying.add(number);
        }
    }

    int played(int p, int h, int n) {
        lay();
        if (!asked(p, n) || !isHalf(h) || told.halves.get(h).person != p) {
            return GAP;
        }
        int[][] game = game(p, 0, n, now.loads.get(p), new HashMap<>());
        lay(game[0]);
        return game[1][h];
    }

    private static final class Shared {
        int[] row = new int[0];
        long most = 0;
        long least = 0;
    }

    /** TOGETHER from DAY t on, if sums did not wrap. */
    private Shared shared(int p, int t, int n, int load, Map<List<Integer>, Shared> known) {
        if (t == n) {
            return new Shared();
        }
        Shared solved = known.get(List.of(t, load));
        if (solved != null) {
            return solved;
        }
        int day = now.day + t;
        Shared best = new Shared();
        if (isIn(p, day) == NONE || told.deeds.isEmpty()) {
            Shared rest = shared(p, t + 1, n, load, known);
            best.row = before(NONE, rest.row);
            best.most = rest.most;
            best.least = rest.least;
        } else {
            for (int d = 0; d < told.deeds.size(); d++) {
                Shared rest = shared(p, t + 1, n, loadAt(p, d, day, load), known);
                long joy = joyAt(p, d, day, load);
                if (d == 0 || joy + rest.most > best.most) {
                    best.row = before(d, rest.row);
                    best.most = joy + rest.most;
                }
                best.least = d == 0 ? joy + rest.least : Math.min(best.least, joy + rest.least);
            }
        }
        known.put(List.of(t, load), best);
        return best;
    }

    private boolean isFew(int n) {
        return Math.pow(told.deeds.size(), n) <= 3000;
    }

    /** Can TOGETHER be told here? Where sums may wrap, only if there are few rows. */
    boolean canTellTogether(int p, int n) {
        if (!asked(p, n) || isFew(n)) {
            return true;
        }
        Shared all = shared(p, 0, n, now.loads.get(p), new HashMap<>());
        return all.most <= Integer.MAX_VALUE && all.least >= Integer.MIN_VALUE;
    }

    int together(int p, int n) {
        lay();
        if (!asked(p, n)) {
            return GAP;
        }
        if (isFew(n)) {
            Tried tried = togetherByTrying(p, n);
            lay(tried.best);
            return tried.most;
        }
        Shared all = shared(p, 0, n, now.loads.get(p), new HashMap<>());
        lay(all.row);
        return (int) all.most;
    }

    /** TOGETHER by its own words: all rows of DEEDS are tried, in their order; of like ones the first stays. */
    static final class Tried {
        int[] row;
        int[] best = null;
        int most = 0;
    }

    Tried togetherByTrying(int p, int n) {
        Tried tried = new Tried();
        tried.row = new int[n];
        tryRows(p, 0, now.loads.get(p), 0, tried);
        return tried;
    }

    private void tryRows(int p, int t, int load, int sum, Tried tried) {
        if (t == tried.row.length) {
            if (tried.best == null || sum > tried.most) {
                tried.best = tried.row.clone();
                tried.most = sum;
            }
            return;
        }
        int day = now.day + t;
        if (isIn(p, day) == NONE || told.deeds.isEmpty()) {
            tried.row[t] = NONE;
            tryRows(p, t + 1, load, sum, tried);
            return;
        }
        for (int d = 0; d < told.deeds.size(); d++) {
            tried.row[t] = d;
            tryRows(p, t + 1, loadAt(p, d, day, load), sum + joyAt(p, d, day, load), tried);
        }
    }

    // ---- bargains

    int next(int d) {
        if (!isDeed(d) || bargain.size() == 14) {
            return NONE;
        }
        bargain.add(d);
        return bargain.size();
    }

    int hush() {
        int had = bargain.size();
        bargain.clear();
        return had;
    }

    /** LOADS by DAYS, and JOY by DAYS, of the BARGAIN kept. */
    private int[][] kept(int p, int n) {
        int[][] kept = new int[2][n + 1];
        kept[0][0] = now.loads.get(p);
        for (int t = 0; t < n; t++) {
            kept[0][t + 1] = kept[0][t];
            if (isIn(p, now.day + t) != NONE) {
                int d = bargain.get(t % bargain.size());
                kept[1][t] = joyAt(p, d, now.day + t, kept[0][t]);
                kept[0][t + 1] = loadAt(p, d, now.day + t, kept[0][t]);
            }
        }
        return kept;
    }

    int breaks(int p, int n) {
        if (!asked(p, n) || bargain.isEmpty()) {
            return -2;
        }
        int[][] kept = kept(p, n);
        for (int t = 0; t < n; t++) {
            int h = isIn(p, now.day + t);
            int keeping = 0;
            for (int u = t; u < n; u++) {
                keeping += isIn(p, now.day + u) == h ? kept[1][u] : 0;
            }
            for (int d = 0; d < told.deeds.size() && h != NONE; d++) {
                if (d != bargain.get(t % bargain.size())
                        && byDeed(p, h, d, now.day + t, kept[0][t], n - t - 1) > keeping) {
                    return t;
                }
            }
        }
        return NONE;
    }

    int cares(int p, int n) {
        if (!asked(p, n) || bargain.isEmpty()) {
            return -2;
        }
        int[][] kept = kept(p, n);
        for (int c = 0; c <= 9; c++) {
            boolean all = true;
            for (int t = 0; t < n && all; t++) {
                all = isIn(p, now.day + t) == NONE
                    || choice(p, now.day + t, kept[0][t], c) == bargain.get(t % bargain.size());
            }
            if (all) {
                return c;
            }
        }
        return NONE;
    }

    int keeps(int p, int h, int n) {
        if (!asked(p, n) || !isHalf(h) || told.halves.get(h).person != p || bargain.isEmpty()) {
            return GAP;
        }
        int sum = 0;
        for (int t = 0; t < n; t++) {
            sum += isIn(p, now.day + t) == h ? kept(p, n)[1][t] : 0;
        }
        return sum;
    }

    // ---- pairings

    /** All of them, as rows of others (himself: he is left; NONE: dead), in their order. */
    private List<int[]> pairings() {
        List<int[]> all = new ArrayList<>();
        int[] row = new int[told.halves.size()];
        long alive = now.alive.stream().filter(a -> a).count();
        tryAll(row, 0, alive % 2, all);
        all.sort(Arrays::compare);
        return all;
    }

    /** Every row of numbers is tried, and those that are no PAIRING are left out. */
    private void tryAll(int[] row, int at, long left, List<int[]> all) {
        if (at == row.length) {
            long alone = 0;
            for (int h = 0; h < row.length; h++) {
                alone += row[h] == h ? 1 : 0;
                if (row[h] != NONE && row[row[h]] != h) {
                    return;
                }
            }
            if (alone == left) {
                all.add(row.clone());
            }
            return;
        }
        for (int o = row.length - 1; o >= NONE; o--) {
            boolean back = o == NONE || o >= at || row[o] == at;
            boolean bound = false;
            for (int e = 0; e < at; e++) {
                bound |= row[e] == at && o != e;
            }
            if (now.alive.get(at) == (o != NONE) && back && !bound && (o == NONE || now.alive.get(o))) {
                row[at] = o;
                tryAll(row, at + 1, left, all);
            }
        }
    }

    private int liking(int[] row, int h) {
        return row[h] == h ? -1 : likes(h, row[h]);
    }

    private int all(int[] row) {
        int sum = 0;
        for (int h = 0; h < row.length; h++) {
            sum += row[h] == NONE ? 0 : liking(row, h);
        }
        return sum;
    }

    private boolean isFast(int[] row) {
        for (int a = 0; a < row.length; a++) {
            for (int b = 0; b < row.length; b++) {
                if (a != b && row[a] != NONE && row[b] != NONE && row[a] != b
                        && likes(a, b) > liking(row, a) && likes(b, a) > liking(row, b)) {
                    return false;
                }
            }
        }
        return true;
    }

    int pairing(boolean fast) {
        lay();
        int[] best = null;
        for (int[] row : pairings()) {
            if (fast ? best == null && isFast(row) : best == null || all(row) > all(best)) {
                best = row;
            }
        }
        if (best == null) {
            return GAP;
        }
        for (int h = 0; h < best.length; h++) {
            lying.add(best[h] == h ? NONE : best[h]);
        }
        return all(best);
    }

    int fast() {
        return (int) pairings().stream().filter(this::isFast).count();
    }

    // ---- votes

    private static int winner(List<Integer> votes) {
        int best = NONE;
        for (int f = 2; f >= 0; f--) {
            int n = Collections.frequency(votes, f);
            if (n > 0 && (best == NONE || n >= Collections.frequency(votes, best))) {
                best = f;
            }
        }
        return best;
    }

    int elected(int day) {
        List<Integer> votes = new ArrayList<>();
        for (int p = 0; p < told.persons.size() && day >= 0 && day < 1000; p++) {
            if (isIn(p, day) != NONE) {
                votes.add(favour(isIn(p, day)));
            }
        }
        return winner(votes);
    }

    int popular() {
        List<Integer> votes = new ArrayList<>();
        for (int h = 0; h < told.halves.size(); h++) {
            if (now.alive.get(h)) {
                votes.add(favour(h));
            }
        }
        return winner(votes);
    }

    int stolen(int n) {
        if (n < 0 || n > 99) {
            return NONE;
        }
        int sum = 0;
        for (int day = now.day; day < now.day + n; day++) {
            sum += elected(day) == NONE || elected(day) != popular() ? 1 : 0;
        }
        return sum;
    }

    int lies(int i) {
        return i < 0 || i >= lying.size() ? NONE : lying.get(i);
    }

    // ---- sights

    private int tell(int day, int half, int skill) {
        if (day < 0 || day > 99 || sights.size() == 30) {
            return NONE;
        }
        Sight s = new Sight();
        s.day = day;
        s.half = half;
        s.skill = skill;
        s.told = time;
        sights.add(s);
        return sights.size() - 1;
    }

    int sight(int day, int h) {
        return !isHalf(h) || told.halves.get(h).person == NONE ? NONE : tell(day, h, NONE);
    }

    int shown(int day, int skill) {
        return skill < 0 || skill > 9 ? NONE : tell(day, NONE, skill);
    }

    boolean untell(int s) {
        if (s < 0 || s >= sights.size() || sights.get(s).untold != null) {
            return false;
        }
        sights.get(s).untold = time;
        return true;
    }

    int later(int by) {
        if (by < 0 || by > 1000 || time + by > 100000) {
            return NONE;
        }
        time += by;
        return time;
    }

    private List<Sight> known(int k) {
        List<Sight> known = new ArrayList<>();
        for (Sight s : sights) {
            if (s.told <= k && (s.untold == null || k < s.untold)) {
                known.add(s);
            }
        }
        return known;
    }

    /** Each as the turn that it makes, with how far it went on and its two places behind it. */
    private List<List<Integer>> explained(int p, int k) {
        List<List<Integer>> all = new ArrayList<>();
        List<Sight> known = known(k);
        int places = told.persons.get(p).turn.size();
        for (int s = 0; s < places; s++) {
            for (int a = NONE; a < places; a++) {
                for (int b = a == NONE ? NONE : a + 1; b < (a == NONE ? 0 : places); b++) {
                    List<Integer> turn = new ArrayList<>(told.persons.get(p).turn);
                    Collections.rotate(turn, -s);
                    if (a != NONE) {
                        Collections.swap(turn, a, b);
                    }
                    boolean fits = true;
                    for (Sight sight : known) {
                        fits &= sight.half == NONE || told.halves.get(sight.half).person != p
                            || turn.get(sight.day % places) == sight.half;
                    }
                    if (fits) {
                        turn.addAll(List.of(s, a, b));
                        all.add(turn);
                    }
                }
            }
        }
        return all;
    }

    int alibis(int p, int k) {
        lay();
        if (!isPerson(p)) {
            return NONE;
        }
        List<List<Integer>> all = explained(p, k);
        if (!all.isEmpty()) {
            List<Integer> first = all.get(0);
            lying = new ArrayList<>(first.subList(first.size() - 3, first.size()));
        }
        return all.size();
    }

    int who(int p, int day, int k) {
        if (!isPerson(p) || day < 0 || day > 99) {
            return NONE;
        }
        int bits = 0;
        for (List<Integer> turn : explained(p, k)) {
            bits |= 1 << turn.get(day % told.persons.get(p).turn.size());
        }
        return bits;
    }

    int stranger(int what, int k) {
        Set<Integer> skills = new HashSet<>();
        for (Sight s : known(k)) {
            if (s.half == NONE) {
                skills.add(s.skill);
            }
        }
        for (int days = 1; days <= 9; days++) {
            Map<Integer, Integer> at = new HashMap<>();
            boolean fits = true;
            for (Sight s : known(k)) {
                if (s.half == NONE) {
                    Integer other = at.put(s.day % days, s.skill);
                    fits &= other == null || other == s.skill;
                }
            }
            if (fits) {
                return what == 0 ? Math.max(1, skills.size()) : what == 1 ? days : NONE;
            }
        }
        return NONE;
    }

    // ---- images

    int image(int box) {
        if (box < 0 || box > 2) {
            return NONE;
        }
        boxes.put(box, now.copy());
        return now.day;
    }

    int back(int box) {
        if (!boxes.containsKey(box)) {
            return NONE;
        }
        now = boxes.get(box).copy();
        past.clear();
        future.clear();
        return now.day;
    }

    int about(int what) {
        int[] all = {told.halves.size(), told.persons.size(), told.deeds.size(), now.day, now.seed, past.size(),
            future.size(), bargain.size(), sights.size(), time, tape.length(), told.units, lying.size(), told.likes};
        return what < 0 || what >= all.length ? NONE : all[what];
    }
}
