import java.io.File;
import java.io.IOException;
import java.lang.reflect.InvocationTargetException;
import java.lang.reflect.Method;
import java.lang.reflect.Modifier;
import java.nio.file.Files;
import java.nio.file.Path;
import java.util.HashMap;
import java.util.Map;
import java.util.Set;
import java.util.TreeMap;
import java.util.TreeSet;
import java.util.regex.Matcher;
import java.util.regex.Pattern;

/** The calls of README.md answer what it says; it shows every call of the face and names every test. */
public final class ReadmeTest {
    private static final String NEW_OBJECT = "DotStores x = new DotStores();";
    private static final Pattern CALL =
            Pattern.compile("(?:int (\\w+) = )?x\\.(\\w+)\\((.*)\\); +// (-?\\d+|\\w+Exception)(?:: .*)?");

    private static final Check CHECK = new Check();

    private final Map<String, Long> names = new HashMap<>();
    private final Set<String> called = new TreeSet<>();
    private DotStores x = new DotStores();

    public static void main(String[] args) throws IOException {
        ReadmeTest test = new ReadmeTest();
        String readme = Files.readString(Path.of("README.md"));
        test.names.put("DotStores.NONE", (long) DotStores.NONE);
        boolean inside = false;
        for (String line : readme.split("\n")) {
            if (line.startsWith("```")) {
                inside = line.equals("```java");
            } else if (inside) {
                test.runLine(line);
            }
        }
        CHECK.tell("the calls that are shown", face().keySet().toString(), test.called.toString());
        namesEveryTest(readme);
        CHECK.end();
    }

    private void runLine(String line) {
        if (line.equals(NEW_OBJECT)) {
            x = new DotStores();
        } else if (!line.isEmpty() && !line.startsWith("//")) {
            Matcher call = CALL.matcher(line);
            CHECK.tell(line, "a call with its answer", call.matches() ? "a call with its answer" : "something else");
            if (call.matches()) {
                runCall(call);
            }
        }
    }

    private void runCall(Matcher call) {
        called.add(call.group(2));
        String got = Check.answer(() -> run(call.group(2), call.group(3)));
        String want = call.group(4);
        CHECK.tell(call.group(), want.endsWith("Exception") ? "throws.java.lang." + want : want, got);
        if (call.group(1) != null && !want.endsWith("Exception")) {
            names.put(call.group(1), Long.valueOf(want));
        }
    }

    private long run(String name, String arguments) {
        Method method = face().get(name);
        if (method == null) {
            throw new AssertionError("README.md calls " + name + ", which there is not");
        }
        try {
            return ((Number) method.invoke(x, typed(method.getParameterTypes(), arguments))).longValue();
        } catch (InvocationTargetException e) {
            throw (RuntimeException) e.getCause();
        } catch (IllegalAccessException e) {
            throw new AssertionError(e);
        }
    }

    private Object[] typed(Class<?>[] types, String arguments) {
        String[] texts = arguments.isEmpty() ? new String[0] : arguments.split(", ");
        Object[] typed = new Object[texts.length];
        for (int i = 0; i < texts.length; i++) {
            if (types[i] == boolean.class) {
                typed[i] = Boolean.valueOf(texts[i]);
            } else if (types[i] == long.class) {
                typed[i] = number(texts[i]);
            } else {
                typed[i] = (int) number(texts[i]);
            }
        }
        return typed;
    }

    /** A number, a name, or such less others. */
    private long number(String text) {
        String[] terms = text.split(" - ");
        long total = term(terms[0]);
        for (int i = 1; i < terms.length; i++) {
            total -= term(terms[i]);
        }
        return total;
    }

    private long term(String text) {
        return names.containsKey(text) ? names.get(text) : Long.parseLong(text);
    }

    private static Map<String, Method> face() {
        Map<String, Method> face = new TreeMap<>();
        for (Method m : DotStores.class.getDeclaredMethods()) {
            if (Modifier.isPublic(m.getModifiers())) {
                face.put(m.getName(), m);
            }
        }
        return face;
    }

    private static void namesEveryTest(String readme) {
        Set<String> told = new TreeSet<>();
        Matcher row = Pattern.compile("^\\| (\\w+Test) \\|", Pattern.MULTILINE).matcher(readme);
        while (row.find()) {
            told.add(row.group(1));
        }
        Set<String> there = new TreeSet<>();
        for (File file : new File("src/test/java").listFiles()) {
            if (file.getName().endsWith("Test.java")) {
                there.add(file.getName().replace(".java", ""));
            }
        }
        CHECK.tell("the tests that are named", there.toString(), told.toString());
    }
}
