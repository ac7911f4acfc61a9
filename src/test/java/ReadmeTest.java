import java.lang.reflect.Method;
import java.lang.reflect.Modifier;
import java.nio.file.Files;
import java.nio.file.Path;
import java.util.HashMap;
import java.util.Map;
import java.util.regex.Matcher;
import java.util.regex.Pattern;

/** The calls on README.md's page are made in their order, and must answer what is written behind them. */
public final class ReadmeTest {
    private static final Due DUE = new Due("ReadmeTest");
    private static final Pattern MADE = Pattern.compile("PatchAsks (\\w+) = new PatchAsks\\(\\);");
    private static final Pattern CALL = Pattern.compile("(\\w+)\\.(\\w+)\\(([^)]*)\\); +// (-?\\d+)(:.*)?");

    public static void main(String[] args) throws Exception {
        String page = Files.readString(Path.of("README.md"));
        examples(page);
        everyCallIsNamed(page);
        DUE.end();
    }

    private static void examples(String page) throws Exception {
        Map<String, PatchAsks> racks = new HashMap<>();
        boolean inCode = false;
        int calls = 0;
        for (String line : page.split("\n")) {
            if (line.startsWith("```")) {
                inCode = line.equals("```java");
            } else if (inCode) {
                calls += exampleStands(line, racks) ? 1 : 0;
            }
        }
        DUE.is("some calls stand on the page", calls > 30 ? 1 : 0, 1);
    }

    /** Whether the line is a call with an answer; every other line of the code must make a rack. */
    private static boolean exampleStands(String line, Map<String, PatchAsks> racks) throws Exception {
        Matcher made = MADE.matcher(line);
        if (made.matches()) {
            racks.put(made.group(1), new PatchAsks());
            return false;
        }
        Matcher call = CALL.matcher(line);
        boolean read = call.matches();
        DUE.is("read as a call: " + line, read ? 1 : 0, 1);
        if (!read) return false;
        DUE.is(line, answer(racks.get(call.group(1)), call.group(2), call.group(3)), Long.parseLong(call.group(4)));
        return true;
    }

    private static long answer(PatchAsks rack, String name, String written) throws Exception {
        String[] words = written.isEmpty() ? new String[0] : written.split(", *");
        for (Method m : PatchAsks.class.getMethods()) {
            if (!m.getName().equals(name) || m.getParameterCount() != words.length) continue;
            Object[] given = new Object[words.length];
            for (int k = 0; k < words.length; k++) given[k] = value(words[k], m.getParameterTypes()[k]);
            return ((Number) m.invoke(rack, given)).longValue();
        }
        throw new IllegalStateException("no such call: " + name + "(" + written + ")");
    }

    private static Object value(String word, Class<?> type) {
        if (type == boolean.class) return Boolean.valueOf(word);
        if (type == int.class) return Integer.decode(word);
        return Long.decode(word.replace("L", ""));
    }

    private static void everyCallIsNamed(String page) {
        for (Method m : PatchAsks.class.getDeclaredMethods()) {
            if (!Modifier.isPublic(m.getModifiers())) continue;
            DUE.is("the page names " + m.getName(), page.contains("`" + m.getName() + "`") ? 1 : 0, 1);
        }
    }
}
