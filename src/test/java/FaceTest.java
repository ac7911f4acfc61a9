import java.lang.reflect.Constructor;
import java.lang.reflect.Field;
import java.lang.reflect.Method;
import java.lang.reflect.Modifier;
import java.nio.file.Files;
import java.nio.file.Path;
import java.util.Arrays;
import java.util.TreeSet;
import java.util.regex.Pattern;

/** The public face, and what the text of the class may not hold. */
public final class FaceTest {
    private static final Due DUE = new Due("FaceTest");
    private static final String[] FACE = {
        "int curve(int, int, int)", "int sheet(int, int, int)", "int bank(int, int, int)", "int voice(int, int)",
        "int share(int, int)", "int clear(int)", "int what(int)", "int is(int, int)", "int width(int, int)",
        "int read(int, int, int)", "int write(int, int, int, long)", "int copy(int, int, int, int, int)",
        "int grow(int, int)", "int shape(int, int, int, long)", "long seen()", "int line(int, int, int)",
        "int rule(int, int, int, int)", "int lay(int, int, int)", "int set(int, int, int)", "int get(int, int)",
        "int take(int, int, int)", "int level(int, int)", "int raise(int, int, int)", "int ask(int, int)",
        "int turn(int, int)", "int arm(int, boolean)", "int fail(int)", "int trace(int)", "int finding()",
        "int findings(int)", "int about(int)", "long digest()"
    };
    // what LANGUAGE.md leaves out, as words of the text (comments and written texts taken away)
    private static final String[] RULED_OUT = {
        "->", "::", "\\btry\\b", "\\bcatch\\b", "\\bthrow\\b", "\\bfinally\\b", "\\bsynchronized\\b", "\\bassert\\b",
        "\\bimport\\b", "\\bpackage\\b", "\\bprotected\\b", "\\bfloat\\b", "\\bdouble\\b", "\\bFloat\\.", "\\bDouble\\.",
        "Exact\\b", "\\bRandom\\b", "\\bThread\\b", "currentTimeMillis", "nanoTime", "@",
        "M(IN|AX)_VALUE"
    };

    public static void main(String[] args) throws Exception {
        constants();
        methods();
        classesInside();
        staticFields();
        shortMethods();
        text();
        DUE.end();
    }

    private static void constants() {
        DUE.is("NONE", PatchAsks.NONE, -1);
        DUE.is("UNKNOWN", PatchAsks.UNKNOWN, -101);
        DUE.is("OUTSIDE", PatchAsks.OUTSIDE, -102);
        DUE.is("FULL", PatchAsks.FULL, -104);
        long open = Arrays.stream(PatchAsks.class.getDeclaredFields()).filter(f -> !Modifier.isPrivate(f.getModifiers())).count();
        DUE.is("constants in the face", open, 4);
    }

    private static void methods() {
        DUE.is("public, final", PatchAsks.class.getModifiers(), Modifier.PUBLIC | Modifier.FINAL);
        Constructor<?>[] made = PatchAsks.class.getDeclaredConstructors();
        DUE.is("constructors", made.length, 1);
        DUE.is("a public constructor", made[0].getModifiers(), Modifier.PUBLIC);
        TreeSet<String> want = new TreeSet<>(Arrays.asList(FACE));
        TreeSet<String> open = new TreeSet<>();
        TreeSet<String> names = new TreeSet<>();
        for (Method m : PatchAsks.class.getDeclaredMethods()) {
            if (!Modifier.isPrivate(m.getModifiers())) {
                open.add(told(m));
                names.add(m.getName());
            }
        }
        DUE.is("methods " + open, open.equals(want) ? 1 : 0, 1);
        for (Method m : PatchAsks.class.getDeclaredMethods()) {
            boolean hides = Modifier.isPrivate(m.getModifiers()) && names.contains(m.getName());
            DUE.is("a private " + m.getName(), hides ? 1 : 0, 0);
        }
    }

    private static void classesInside() {
        Class<?>[] inside = PatchAsks.class.getDeclaredClasses();
        DUE.is("at most twelve classes", inside.length + 1 <= 12 ? 1 : 0, 1);
        for (Class<?> c : inside) {
            DUE.is(c + " is private or package-visible", c.getModifiers() & (Modifier.PUBLIC | Modifier.PROTECTED), 0);
            DUE.is(c + " is static", c.getModifiers() & Modifier.STATIC, Modifier.STATIC);
            for (Method m : c.getDeclaredMethods()) {
                for (String open : FACE) DUE.is("an inner " + m.getName(), open.contains(" " + m.getName() + "(") ? 1 : 0, 0);
            }
        }
    }

    private static void staticFields() {
        int own = 0;
        for (Field f : PatchAsks.class.getDeclaredFields()) {
            boolean constant = Modifier.isStatic(f.getModifiers());
            if (constant) DUE.is(f + " is final", Modifier.isFinal(f.getModifiers()) ? 1 : 0, 1);
            else own++;
        }
        DUE.is("at most twenty fields", own <= 20 ? 1 : 0, 1);
        for (Method m : PatchAsks.class.getDeclaredMethods()) {
            DUE.is(m.getName() + " takes at most seven", m.getParameterCount() <= 7 ? 1 : 0, 1);
        }
    }

    /** No method has more than sixty lines: they begin at four or eight spaces and end at a brace there. */
    private static void shortMethods() throws Exception {
        String begun = null;
        int lines = 0;
        for (String line : Files.readAllLines(Path.of("src/main/java/PatchAsks.java"))) {
            lines++;
            if (line.matches("( {4}| {8})[a-zA-Z].*\\) \\{") && !line.matches(" *(if|for|while|switch) .*")) {
                begun = line;
                lines = 1;
            } else if (begun != null && line.matches("( {4}| {8})\\}") && line.indexOf('}') == begun.length() - begun.stripLeading().length()) {
                DUE.is(begun.trim() + " has at most sixty lines", lines <= 60 ? 1 : 0, 1);
                begun = null;
            }
        }
    }

    private static String told(Method m) {
        String parameters = Arrays.toString(m.getParameterTypes());
        return m.getReturnType() + " " + m.getName() + "(" + parameters.substring(1, parameters.length() - 1) + ")";
    }

    private static void text() throws Exception {
        String source = Files.readString(Path.of("src/main/java/PatchAsks.java"));
        String bare = source.replaceAll("(?s)/\\*.*?\\*/", "").replaceAll("//[^\n]*", "");
        for (String word : RULED_OUT) DUE.is("holds " + word, Pattern.compile(word).matcher(bare).find() ? 1 : 0, 0);
        long other = source.chars().filter(c -> c > 127).count();
        DUE.is("signs beyond 127", other, 0);
    }
}
