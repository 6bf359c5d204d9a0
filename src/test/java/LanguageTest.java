import java.io.IOException;
import java.lang.reflect.Constructor;
import java.lang.reflect.Field;
import java.lang.reflect.Method;
import java.lang.reflect.Modifier;
import java.nio.file.Files;
import java.nio.file.Path;
import java.util.ArrayList;
import java.util.Arrays;
import java.util.List;
import java.util.Set;
import java.util.TreeSet;
import java.util.regex.Matcher;
import java.util.regex.Pattern;

/** The face, and what of LANGUAGE.md can be seen by reflection and from the program's text. */
public final class LanguageTest {
    private static final Check CHECK = new Check("LanguageTest");
    private static final String FACE = "boolean exchange(int,int,int) boolean redo() boolean undo() boolean untell(int) "
        + "int about(int) int alibis(int,int) int back(int) int breaks(int,int) int cares(int,int) int chooses(int,int) "
        + "int days(int) int decree(int,int) int die(int) int elected(int) int end(int) int fast() int fault(int) "
        + "int feed(int,int,int,int,int) int guilt(int,int,int) int half(int,int) int hush() int image(int) int in(int,int) "
        + "int joy(int,int) int keeps(int,int,int) int later(int) int lies(int) int likes(int,int) int next(int) "
        + "int pairing(boolean) int person(int,int) int played(int,int,int) int popular() int prank() int record(int,int) "
        + "int register() int shown(int,int) int sight(int,int) int stolen(int) int stranger(int,int) int together(int,int) "
        + "int who(int,int,int)";

    public static void main(String[] args) throws IOException {
        face();
        constants();
        classes();
        String text = Files.readString(Path.of("src/main/java/TwoInOne.java"));
        String code = text.replaceAll("/\\*(?s:.)*?\\*/|//[^\n]*", "");
        forbidden(code);
        library(code);
        lengths(code);
        CHECK.finish();
    }

    private static void face() {
        Set<String> methods = new TreeSet<>();
        for (Method m : TwoInOne.class.getDeclaredMethods()) {
            if (!Modifier.isPrivate(m.getModifiers())) {
                CHECK.due(m + " is public, not static", Modifier.isPublic(m.getModifiers()) && !Modifier.isStatic(m.getModifiers()), true);
                String taken = Arrays.toString(m.getParameterTypes()).replaceAll("[\\[\\] ]", "");
                methods.add(m.getReturnType() + " " + m.getName() + "(" + taken + ")");
            }
        }
        CHECK.due("the methods are " + String.join(" ", methods), String.join(" ", methods).equals(FACE), true);
        Constructor<?>[] constructors = TwoInOne.class.getDeclaredConstructors();
        CHECK.due("one constructor", constructors.length, 1);
        CHECK.due("it takes nothing", constructors[0].getParameterCount(), 0);
        CHECK.due("it is public", Modifier.isPublic(constructors[0].getModifiers()), true);
        CHECK.due("public and final", Modifier.isPublic(TwoInOne.class.getModifiers())
            && Modifier.isFinal(TwoInOne.class.getModifiers()), true);
    }

    private static void constants() {
        CHECK.due("NONE", TwoInOne.NONE, -1);
        CHECK.due("GAP", TwoInOne.GAP, -1000000000);
        for (Field f : TwoInOne.class.getDeclaredFields()) {
            boolean shown = f.getName().equals("NONE") || f.getName().equals("GAP");
            CHECK.due(f + " is public", Modifier.isPublic(f.getModifiers()), shown);
            CHECK.due(f + " is private", Modifier.isPrivate(f.getModifiers()), !shown);
        }
    }

    private static void classes() {
        Set<String> named = new TreeSet<>();
        for (Method m : TwoInOne.class.getMethods()) {
            named.add(m.getName());
        }
        List<Class<?>> all = new ArrayList<>(Arrays.asList(TwoInOne.class.getDeclaredClasses()));
        CHECK.due("classes inside", all.size() <= 11, true);
        all.add(TwoInOne.class);
        for (Class<?> c : all) {
            CHECK.due(c + " is static", c == TwoInOne.class || Modifier.isStatic(c.getModifiers()), true);
            int fields = 0;
            for (Field f : c.getDeclaredFields()) {
                boolean fixed = Modifier.isStatic(f.getModifiers());
                CHECK.due(f + " is final if it is static", !fixed || Modifier.isFinal(f.getModifiers()), true);
                fields += fixed ? 0 : 1;
            }
            CHECK.due(c + " has fields: " + fields, fields <= 20, true);
            for (Method m : c.getDeclaredMethods()) {
                boolean hidden = c != TwoInOne.class || Modifier.isPrivate(m.getModifiers());
                CHECK.due(m + " bears a public name", hidden && named.contains(m.getName()), false);
                CHECK.due(m + " takes at most seven", m.getParameterCount() <= 7, true);
                CHECK.due(m + " is made by the compiler", m.isSynthetic(), false);
            }
        }
    }

    private static void forbidden(String code) {
        String[] none = {"\\bthrow\\b", "\\bthrows\\b", "\\btry\\b", "\\bcatch\\b", "\\bsynchronized\\b", "\\bassert\\b", "->",
            "::", "\\bstatic *\\{", "\\bvar\\b", "\\bdouble\\b", "\\bfloat\\b", "\\bhashCode\\b", "\\btoString\\b", "Exact\\b",
            "\\bprotected\\b", "\" *\\+", "\\+ *\"", "\\bString *\\[", "\\bvolatile\\b", "\\bnative\\b", "\\bwhile *\\(true"};
        for (String each : none) {
            Matcher found = Pattern.compile(each).matcher(code);
            CHECK.due(each + " stands in the program", found.find(), false);
        }
    }

    private static void library(String code) {
        Matcher imports = Pattern.compile("import ([\\w.*]+);").matcher(code);
        while (imports.find()) {
            CHECK.due("import " + imports.group(1), imports.group(1).equals("java.util.Arrays"), true);
        }
        Set<String> fine = Set.of("System.arraycopy", "Arrays.fill", "Math.max", "Math.min", "Math.floorMod", "Integer.bitCount");
        Matcher calls = Pattern.compile("\\b(System|Arrays|Math|Integer|Long|Character|Objects)\\.(\\w+)").matcher(code);
        while (calls.find()) {
            CHECK.due(calls.group(), fine.contains(calls.group()), true);
        }
    }

    private static void lengths(String code) {
        int start = 0;
        String[] lines = code.split("\n");
        for (int i = 0; i < lines.length; i++) {
            CHECK.due("line " + (i + 1) + " is not too long", lines[i].length() <= 130, true);
            if (lines[i].matches(" +[\\w\\[\\] ]+\\([^;]*\\) \\{")) {
                start = i;
            }
            if (lines[i].matches("    (    )?}")) {
                CHECK.due("the method behind line " + start + " is short", i - start <= 60 || start == 0, true);
                start = 0;
            }
        }
    }
}
