import java.io.IOException;
import java.lang.reflect.Method;
import java.net.URL;
import java.net.URLClassLoader;
import java.nio.file.Files;
import java.nio.file.Path;
import java.util.Random;
import javax.tools.ToolProvider;

/**
 * Promise 22 where sums wrap, against all rows tried one by one. Ways that the program goes only where sums are very many are
 * gone here with few of them: by programs that are the same but for less room.
 */
public final class WrapsTest {
    private static final Check CHECK = new Check("WrapsTest");
    private static final String PROGRAM = "src/main/java/TwoInOne.java";
    private static final String[] FACTORS = {"", "*7919", "*9973*9901", "*9999*9999", "*9999*9999*9999", "*4096*4", "*4096*16",
        "*1000*1000", "*1234*987*13", "*5003*4999*7", "*8192*2*8192*8", "*100*1000*1000", "*119*1000*1000"};
    /** Of the runs with sums close together those in which a mark at an edge that was left out changed the answer. */
    private static final int[] AT_EDGES = {412, 749, 918, 2165, 4733, 6671};
    private static final String[] WORDS = {"load", "day", "skill", "again", "load", "day"};
    private static final String[] JOINTS = {"+", "-", "*", "+", "*", "%"};

    public static void main(String[] args) throws ReflectiveOperationException, IOException {
        int runs = args.length > 0 ? Integer.parseInt(args[0]) : 400;
        Path folder = Files.createTempDirectory("wraps");
        try {
            compare("as it is", TwoInOne.class, runs / 4, 300000);
            compare("next to no room", tight(folder.resolve("a"), 3, 7, "64", 8, 8), runs, 20000);
            compare("a short front", tight(folder.resolve("b"), 3, 8, "16", 2, 2), runs, 20000);
            compare("little room", tight(folder.resolve("c"), 5, 10, "1000", 5, 5), runs, 20000);
            compare("a large front", tight(folder.resolve("d"), 3, 7, "1 << 14", 8, 5), runs, 20000);
            compare("a fine sieve", tight(folder.resolve("e"), 3, 8, "64", 3, 12), runs, 20000);
            compareClose("close together", tight(folder.resolve("f"), 3, 7, "32", 3, 8), 3 * runs);
            compareClose("close together, more in front", tight(folder.resolve("g"), 3, 7, "512", 4, 12), 3 * runs);
        } finally {
            Check.remove(folder);
        }
        CHECK.finish();
    }

    /** The program with other numbers for its room. */
    private static Class<?> tight(Path folder, int fewBits, int manyBits, String front, int days, int sieveBits)
            throws ReflectiveOperationException, IOException {
        String text = Files.readString(Path.of(PROGRAM));
        text = put(text, "int FEW_SUMS = 1 << 15;", "int FEW_SUMS = 1 << " + fewBits + ";");
        text = put(text, "int MANY_SUMS = 1 << 18;", "int MANY_SUMS = 1 << " + manyBits + ";");
        text = put(text, "int MOST_IN_FRONT = 1 << 17;", "int MOST_IN_FRONT = " + front + ";");
        text = put(text, "int FRONT_DAYS = 8;", "int FRONT_DAYS = " + days + ";");
        text = put(text, "int SIEVE_ROOM = 1 << 17;", "int SIEVE_ROOM = 1 << " + sieveBits + ";");
        Files.createDirectories(folder);
        Path file = folder.resolve("TwoInOne.java");
        Files.writeString(file, text);
        int wrong = ToolProvider.getSystemJavaCompiler().run(null, null, null, "-d", folder.toString(), file.toString());
        CHECK.due("errors of the compiler", wrong, 0);
        try (URLClassLoader loader = new URLClassLoader(new URL[] {folder.toUri().toURL()}, null)) {
            Class<?> made = loader.loadClass("TwoInOne");
            // All classes inside are needed before the loader is closed.
            for (Class<?> each : made.getDeclaredClasses()) {
                loader.loadClass(each.getName());
            }
            return made;
        }
    }

    private static String put(String text, String old, String fresh) {
        CHECK.due(old + " stands once in the program", text.split(java.util.regex.Pattern.quote(old), -1).length, 2);
        return text.replace(old, fresh);
    }

    private static void compare(String name, Class<?> program, int runs, double mostRows) throws ReflectiveOperationException {
        for (int run = 0; run < runs; run++) {
            Random random = new Random(run * 7919L + 13);
            int deeds = 1 + random.nextInt(6);
            Model m = new Model();
            Object x = register(name + ", run " + run, program, m, text(random, deeds));
            before(random, x, m, deeds);
            int n = 1;
            int most = 1 + random.nextInt(20);
            while (n < most && Math.pow(deeds, n + 1) <= mostRows) {
                n++;
            }
            together(name + ", run " + run, x, m, n);
        }
    }

    /** Many sums lie within some hundred ints, so stretches are short, and the best may be at their edges. */
    private static void compareClose(String name, Class<?> program, int runs) throws ReflectiveOperationException {
        for (int run = 0; run < runs; run++) {
            close(name, program, run);
        }
        for (int run : AT_EDGES) {
            close(name, program, run);
        }
    }

    private static void close(String name, Class<?> program, int run) throws ReflectiveOperationException {
        Random random = new Random(run * 104729L + 7);
        int deeds = 2 + random.nextInt(3);
        Model m = new Model();
        Object x = register(name + ", run " + run, program, m, closeText(random, deeds));
        int n = deeds == 2 ? 13 : deeds == 3 ? 8 : 6;
        together(name + ", run " + run, x, m, n + random.nextInt(2));
    }

    private static Object register(String name, Class<?> program, Model m, String told) throws ReflectiveOperationException {
        Method feed = program.getMethod("feed", int.class, int.class, int.class, int.class, int.class);
        Method end = program.getMethod("end", int.class);
        byte[] text = told.getBytes(java.nio.charset.StandardCharsets.ISO_8859_1);
        Object x = program.getConstructor().newInstance();
        for (int i = 0; i < text.length; i += 20) {
            int[] w = Check.words(text, i);
            feed.invoke(x, w[0], w[1], w[2], w[3], w[4]);
            m.feed(w[0], w[1], w[2], w[3], w[4]);
        }
        end.invoke(x, text.length);
        m.end(text.length);
        CHECK.due(name + ": register", call(x, "register"), m.register());
        return x;
    }

    private static void together(String name, Object x, Model m, int n) throws ReflectiveOperationException {
        Model.Tried due = m.togetherByTrying(0, n);
        CHECK.due(name + ": together(0, " + n + ")", call(x, "together", 0, n), due.most);
        for (int t = 0; t < n; t++) {
            CHECK.due(name + ": lies(" + t + ")", call(x, "lies", t), due.best[t]);
        }
    }

    /** What may come before the game: DAYS, a LOAD, one who is dead. */
    private static void before(Random random, Object x, Model m, int deeds) throws ReflectiveOperationException {
        int days = random.nextInt(3) == 0 ? random.nextInt(30) : 0;
        CHECK.due("days", call(x, "days", days), m.days(days));
        if (random.nextInt(4) == 0) {
            int half = random.nextInt(3);
            CHECK.due("die", call(x, "die", half), m.die(half));
        }
        if (random.nextInt(3) == 0) {
            int deed = random.nextInt(deeds);
            CHECK.due("decree", call(x, "decree", 0, deed), m.decree(0, deed));
        }
    }

    private static int call(Object x, String name, int... given) throws ReflectiveOperationException {
        Class<?>[] types = new Class<?>[given.length];
        Object[] values = new Object[given.length];
        for (int i = 0; i < given.length; i++) {
            types[i] = int.class;
            values[i] = given[i];
        }
        return (Integer) x.getClass().getMethod(name, types).invoke(x, values);
    }

    private static String text(Random random, int deeds) {
        int style = random.nextInt(6);
        StringBuilder s = new StringBuilder();
        for (String half : new String[] {"a", "b", "c"}) {
            s.append("half ").append(half).append(" skill ").append(random.nextInt(10)).append(";");
        }
        s.append("person p of a b c turn");
        for (int i = random.nextInt(8); i >= 0; i--) {
            s.append(" ").append(random.nextInt(3));
        }
        s.append(";");
        for (int d = 0; d < deeds; d++) {
            s.append("deed ").append((char) ('s' + d)).append(" joy ");
            formula(s, random, true, style);
            s.append(" load ");
            formula(s, random, false, style);
            s.append(";");
        }
        return s.toString();
    }

    private static void formula(StringBuilder s, Random random, boolean joy, int style) {
        int parts = 1 + random.nextInt(3);
        if (joy && style == 3) {
            nearTheTop(s, random);
            return;
        }
        if (joy && style == 4) {
            withLowBitsAlike(s, random);
            return;
        }
        if (joy && style == 5) {
            atTheEdges(s, random);
            return;
        }
        for (int i = 0; i < parts; i++) {
            s.append(i == 0 ? "" : JOINTS[random.nextInt(JOINTS.length)]);
            if (style == 2 && joy) {
                s.append(random.nextInt(200)).append("*1000*1000*").append(1 + random.nextInt(3));
                continue;
            }
            if (random.nextInt(3) == 0) {
                s.append(random.nextInt(joy ? 10000 : 20));
            } else {
                s.append(WORDS[random.nextInt(WORDS.length)]);
            }
            if (joy && random.nextInt(style == 0 ? 2 : 5) == 0) {
                s.append(FACTORS[random.nextInt(FACTORS.length)]);
            }
        }
    }

    /** Many sums lie close together, just below and just above the greatest int. */
    private static void nearTheTop(StringBuilder s, Random random) {
        if (random.nextInt(3) == 0) {
            s.append("(day%").append(2 + random.nextInt(4)).append("=0)*(2147*1000*1000+483*1000+").append(random.nextInt(700));
            s.append(")+");
        }
        String[] small = {"load%7*6", "day%5*10", "15", "0", "again*6", "load%13", "6*day", "skill*10", "load*2"};
        s.append(small[random.nextInt(small.length)]);
    }

    /** On each DAY all have the same low bits, so that the greatest int can't come. */
    private static void withLowBitsAlike(StringBuilder s, Random random) {
        s.append("day%4+(load*").append(random.nextInt(30)).append("+skill*day+").append(random.nextInt(300)).append(")*4096*4096");
        s.append(random.nextBoolean() ? "*4" : "*12");
    }

    /** Sums lie at the edges of stretches, which are parts of all ints by powers of 2, or one or two beside them. */
    private static void atTheEdges(StringBuilder s, Random random) {
        String[] small = {"load%3", "load%2", "1", "0", "0-load%3", "again", "0-again", "day%2", "0", "2"};
        s.append("(load*").append(random.nextInt(5)).append("+day*").append(random.nextInt(4)).append("+").append(random.nextInt(64));
        s.append(")*4096*4096").append(random.nextBoolean() ? "*4" : random.nextBoolean() ? "*2" : "*8");
        s.append("+").append(small[random.nextInt(small.length)]);
    }

    /** On the first DAY JOY is so great that what comes then leads just to the greatest int, or beyond it. */
    private static String closeText(Random random, int deeds) {
        StringBuilder s = new StringBuilder("half a skill 3;half b skill 8;person p of a b turn 0 1 1;");
        int step = 1 + random.nextInt(4);
        int below = random.nextInt(500);
        for (int d = 0; d < deeds; d++) {
            s.append("deed ").append((char) ('s' + d)).append(" joy (day=0)*(8192*8192*32-").append(1 + below).append(")");
            s.append(random.nextInt(4) == 0 ? "-(" : "+(").append("load*").append(random.nextInt(40)).append("+day*");
            s.append(random.nextInt(40)).append("+").append(random.nextInt(60)).append(")%").append(20 + random.nextInt(80));
            s.append("*").append(step);
            s.append(" load ").append("(load*").append(1 + random.nextInt(9)).append("+").append(random.nextInt(30));
            s.append(")%").append(1 + random.nextInt(4)).append(";");
        }
        return s.toString();
    }
}
