import java.util.Random;

/** Runs of calls, at random but always alike, on the program and on the model. */
public final class ModelTest {
    private static final Check CHECK = new Check("ModelTest");
    private static final int RUNS = 3000;
    private static final int CALLS = 150;

    private final Random random;
    private final TwoInOne x = new TwoInOne();
    private final Model m = new Model();
    private int run;
    /** JOY is so great that sums wrap. */
    private boolean wild;

    private ModelTest(int run) {
        this.run = run;
        random = new Random(run);
    }

    public static void main(String[] args) {
        int runs = args.length > 0 ? Integer.parseInt(args[0]) : RUNS;
        for (int run = 0; run < runs; run++) {
            new ModelTest(run).go();
        }
        CHECK.finish();
    }

    private void go() {
        for (int i = 0; i < CALLS; i++) {
            if (i == 0 || random.nextInt(60) == 0) {
                register();
            } else {
                call();
            }
        }
        for (int what = -1; what <= 14; what++) {
            due("about(" + what + ")", x.about(what), m.about(what));
        }
    }

    private void due(String call, long got, long want) {
        CHECK.due("run " + run + " " + call, got, want);
    }

    private void due(String call, boolean got, boolean want) {
        due(call, got ? 1 : 0, want ? 1 : 0);
    }

    // ---- texts

    private void register() {
        String text = text();
        for (int i = random.nextInt(4) == 0 ? 1 + random.nextInt(3) : 0; i > 0; i--) {
            text = spoilt(text);
        }
        text = text.length() > 1600 ? text.substring(0, 1600) : text;
        int length = x.about(10);
        int room = (1600 - length) / 20 * 20;
        text = text.length() > room ? text.substring(0, room) : text;
        for (int i = 0; i < text.length(); i += 20) {
            int[] w = new int[5];
            for (int j = 0; j < 20; j++) {
                w[j / 4] = w[j / 4] << 8 | (i + j < text.length() ? text.charAt(i + j) & 255 : ' ');
            }
            due("feed", x.feed(w[0], w[1], w[2], w[3], w[4]), m.feed(w[0], w[1], w[2], w[3], w[4]));
        }
        due("end", x.end(length + text.length()), m.end(length + text.length()));
        int got = x.register();
        due("register of '" + text + "'", got, m.register());
        due("fault(0) of '" + text + "'", x.fault(0), m.fault(0));
        due("fault(1) of '" + text + "'", x.fault(1), m.fault(1));
        due("about(10)", x.about(10), m.about(10));
        if (got == TwoInOne.NONE && random.nextInt(3) > 0) {
            due("end(0)", x.end(0), m.end(0));
            register();
        }
    }

    private String spoilt(String text) {
        String[] bits = {" ", "\n", ";", "(", ")", "+", "<", "not ", "half ", " load ", "7", "12345", "a", " b ", "z", "skill",
            "!", "\u00ff", " cares 3", "of", "9", "abcdefghi", "1x", " or ", "=", "-", "draw 3;", "\t"};
        int at = random.nextInt(text.length() + 1);
        int to = Math.min(text.length(), at + random.nextInt(4));
        String bit = random.nextInt(3) == 0 ? "" : bits[random.nextInt(bits.length)];
        return text.substring(0, at) + bit + text.substring(to);
    }

    private String text() {
        StringBuilder s = new StringBuilder();
        int halves = random.nextInt(9);
        if (random.nextInt(40) == 0) {
            halves = 9;
        }
        for (int h = 0; h < halves; h++) {
            s.append("half ").append((char) ('a' + h)).append(" skill ").append(random.nextInt(10));
            if (random.nextBoolean()) {
                s.append(" cares ").append(random.nextInt(10));
            }
            s.append(";");
        }
        persons(s, halves);
        wild = random.nextInt(4) == 0;
        int deeds = random.nextInt(random.nextInt(30) == 0 ? 8 : 5);
        for (int d = 0; d < deeds; d++) {
            s.append("deed ").append((char) ('s' + d)).append(" joy ");
            formula(s, 0, true);
            s.append(" load ");
            formula(s, 0, false);
            s.append(";");
        }
        for (int h = 0; h < halves && halves > 1; h++) {
            for (int o = 0; o < halves; o++) {
                if (h != o && random.nextInt(3) > 0) {
                    s.append("like ").append((char) ('a' + h)).append(" to ").append((char) ('a' + o)).append(" ");
                    s.append(random.nextInt(random.nextBoolean() ? 10 : 3)).append(";");
                }
            }
            if (random.nextInt(3) > 0) {
                s.append("favour ").append((char) ('a' + h)).append(" ").append(random.nextInt(3)).append(";");
            }
        }
        if (random.nextBoolean()) {
            s.append("draw ").append(random.nextInt(1000)).append(";");
        }
        return s.toString();
    }

    private void persons(StringBuilder s, int halves) {
        int next = 0;
        for (int p = 0; p < 4 && next + 2 <= halves; p++) {
            int count = Math.min(halves - next, 2 + random.nextInt(2));
            s.append("person ").append((char) ('a' + p)).append(" of");
            for (int i = 0; i < count; i++) {
                s.append(" ").append((char) ('a' + next + i));
            }
            s.append(" turn");
            int places = 1 + random.nextInt(random.nextInt(4) == 0 ? 14 : 5);
            for (int i = 0; i < places; i++) {
                s.append(" ").append(random.nextInt(count));
            }
            s.append(";");
            next += count;
        }
    }

    private void formula(StringBuilder s, int depth, boolean joy) {
        int parts = depth == 0 ? 1 + random.nextInt(random.nextInt(20) == 0 ? 12 : 4) : 1 + random.nextInt(2);
        String[] joints = {" + ", " - ", " * ", "/", "%", " + ", "-", "+"};
        boolean related = false;
        for (int i = 0; i < parts; i++) {
            boolean fresh = i == 0;
            if (i > 0) {
                int kind = random.nextInt(12);
                if (kind == 0) {
                    s.append(random.nextBoolean() ? " and " : " or ");
                    related = false;
                    fresh = true;
                } else if (kind == 1 && !related) {
                    s.append(random.nextInt(3) == 0 ? "=" : random.nextBoolean() ? "<" : ">");
                    related = true;
                } else {
                    s.append(joints[random.nextInt(joints.length)]);
                }
            }
            if (fresh && random.nextInt(12) == 0) {
                s.append("not ");
            }
            unit(s, depth, joy);
            if (wild && joy && random.nextInt(3) == 0) {
                s.append("*").append(random.nextInt(10000)).append("*9973*").append(1 + random.nextInt(99));
            }
        }
    }

    private void unit(StringBuilder s, int depth, boolean joy) {
        String[] words = {"load", "day", "skill", "again", "load", "skill", "load"};
        int kind = random.nextInt(10);
        if (kind < 3) {
            s.append(random.nextInt(joy ? 20 : 9));
        } else if (kind == 3 && random.nextInt(4) == 0) {
            s.append(random.nextInt(10000));
        } else if (kind == 4 && depth < 9) {
            s.append("(");
            formula(s, depth + 1, joy);
            s.append(")");
        } else {
            s.append(words[random.nextInt(words.length)]);
        }
    }

    // ---- calls

    /** Mostly a number that can be, at times one beside it. */
    private int pick(int below) {
        int kind = random.nextInt(25);
        return kind == 0 ? -1 : kind == 1 ? below : kind == 2 ? random.nextInt() : random.nextInt(Math.max(1, below));
    }

    private void call() {
        int kind = random.nextInt(6);
        if (kind == 0) {
            tellOrAsk();
        } else if (kind == 1) {
            act();
        } else if (kind == 2) {
            game();
        } else if (kind == 3) {
            gather();
        } else if (kind == 4) {
            look();
        } else {
            state();
        }
    }

    private void tellOrAsk() {
        int a = pick(8);
        int b = pick(9);
        due("half", x.half(a, b % 6), m.half(a, b % 6));
        due("likes", x.likes(a, b), m.likes(a, b));
        due("person", x.person(a / 2, b / 2), m.person(a / 2, b / 2));
        due("in", x.in(a / 2, b * 100), m.in(a / 2, b * 100));
        int c = pick(1000);
        due("elected", x.elected(c), m.elected(c));
        due("popular", x.popular(), m.popular());
        int n = pick(100);
        due("stolen", x.stolen(n), m.stolen(n));
    }

    private int day() {
        return pick(random.nextInt(8) == 0 ? 61 : 4);
    }

    private void act() {
        int p = pick(Math.max(1, m.about(1)));
        int a = pick(Math.max(1, m.person(p, 1)));
        int b = pick(Math.max(1, m.person(p, 1)));
        switch (random.nextInt(9)) {
            case 0: case 1: int n = day(); due("days " + n, x.days(n), m.days(n)); break;
            case 2: int d = pick(Math.max(1, m.about(2))); due("decree", x.decree(p, d), m.decree(p, d)); break;
            case 3: due("exchange", x.exchange(p, a, b), m.exchange(p, a, b)); break;
            case 4: int h = pick(Math.max(1, m.about(0))); due("die", x.die(h), m.die(h)); break;
            case 5: due("prank", x.prank(), m.prank()); break;
            case 6: due("undo", x.undo(), m.undo()); break;
            case 7: due("redo", x.redo(), m.redo()); break;
            default:
                int box = pick(3);
                if (random.nextBoolean()) {
                    due("image", x.image(box), m.image(box));
                } else {
                    due("back", x.back(box), m.back(box));
                }
        }
        state();
    }

    private void state() {
        for (int p = 0; p < m.about(1); p++) {
            due("LOAD", x.person(p, 0), m.person(p, 0));
            int day = random.nextInt(20);
            due("in", x.in(p, day), m.in(p, day));
            int c = pick(10);
            due("chooses " + c, x.chooses(p, c), m.chooses(p, c));
            int d = pick(6);
            due("joy " + d, x.joy(p, d), m.joy(p, d));
        }
        int h = pick(8);
        int d = pick(6);
        due("record", x.record(h, d), m.record(h, d));
        due("record", x.record(h, -1), m.record(h, -1));
        due("guilt", x.guilt(d, h, 0), m.guilt(d, h, 0));
        due("guilt", x.guilt(d, h, 1), m.guilt(d, h, 1));
        int what = pick(14);
        due("about(" + what + ")", x.about(what), m.about(what));
    }

    private void game() {
        int p = pick(Math.max(1, m.about(1)));
        int h = pick(8);
        int n = random.nextInt(5) == 0 ? pick(21) : 1 + random.nextInt(6);
        int d = pick(Math.max(1, m.about(2)));
        switch (random.nextInt(8)) {
            case 0: due("played", x.played(p, h, n), m.played(p, h, n)); break;
            case 1: together(p, n); break;
            case 2: case 3: due("next", x.next(d), m.next(d)); break;
            case 4: due("breaks", x.breaks(p, n), m.breaks(p, n)); break;
            case 5: due("cares", x.cares(p, n), m.cares(p, n)); break;
            case 6: due("keeps", x.keeps(p, h, n), m.keeps(p, h, n)); break;
            default:
                if (random.nextInt(4) == 0) {
                    due("hush", x.hush(), m.hush());
                }
        }
        lying();
    }

    private void together(int p, int n) {
        int days = n;
        while (!m.canTellTogether(p, days)) {
            days--;
        }
        due("together", x.together(p, days), m.together(p, days));
    }

    private void lying() {
        for (int i = -1; i <= m.about(12); i++) {
            due("lies(" + i + ")", x.lies(i), m.lies(i));
        }
        due("about(12)", x.about(12), m.about(12));
    }

    private void gather() {
        int day = pick(random.nextBoolean() ? 100 : 8);
        switch (random.nextInt(5)) {
            case 0: int h = pick(8); due("sight", x.sight(day, h), m.sight(day, h)); break;
            case 1: int s = day >= 0 ? day % 3 : pick(10); due("shown", x.shown(day, s), m.shown(day, s)); break;
            case 2: int u = pick(Math.max(1, m.about(8))); due("untell", x.untell(u), m.untell(u)); break;
            case 3: int by = pick(random.nextInt(9) == 0 ? 1001 : 4); due("later", x.later(by), m.later(by)); break;
            default: break;
        }
    }

    private void look() {
        int p = pick(Math.max(1, m.about(1)));
        int k = pick(m.about(9) + 2);
        int day = pick(100);
        switch (random.nextInt(6)) {
            case 0: due("alibis", x.alibis(p, k), m.alibis(p, k)); break;
            case 1: due("who", x.who(p, day, k), m.who(p, day, k)); break;
            case 2: int what = pick(2); due("stranger", x.stranger(what, k), m.stranger(what, k)); break;
            case 3: due("pairing(false)", x.pairing(false), m.pairing(false)); break;
            case 4: due("pairing(true)", x.pairing(true), m.pairing(true)); break;
            default: due("fast", x.fast(), m.fast());
        }
        lying();
    }
}
