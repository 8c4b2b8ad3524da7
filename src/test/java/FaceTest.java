import java.io.IOException;
import java.lang.reflect.Field;
import java.lang.reflect.Method;
import java.lang.reflect.Modifier;
import java.nio.file.Files;
import java.nio.file.Path;
import java.util.ArrayList;
import java.util.Arrays;
import java.util.List;
import java.util.Set;
import java.util.TreeSet;
import java.util.regex.Pattern;

/** The public face of the document, and those rules of LANGUAGE.md that the class or its text shows. */
public final class FaceTest {
    private static final String INDEX = " throws IndexOutOfBoundsException";
    private static final String FULL = ", IllegalStateException";
    private static final String KIND = INDEX + ", UnsupportedOperationException" + FULL;
    private static final String[] FACE = {
        "int element(int, int, int, boolean)" + KIND,
        "int write(int, int, long)" + KIND,
        "int count(int, int, long)" + KIND,
        "int flag(int, int, int, boolean)" + KIND,
        "int clear(int, int)" + INDEX + FULL,
        "int twice(int, int, boolean)" + INDEX + FULL,
        "int timed(int, int, int, boolean)" + INDEX + ", IllegalArgumentException" + FULL,
        "int join(int, int)" + INDEX,
        "int merge(int, int)" + INDEX,
        "int group(int, int)" + INDEX + FULL,
        "int whole(int)" + INDEX + FULL,
        "int deltas()",
        "int has(int, int, int)" + INDEX,
        "int values(int, int)" + INDEX,
        "long value(int, int, int)" + INDEX,
        "long sum(int, int)" + INDEX,
        "int keys(int)" + INDEX,
        "int inTwice(int, int)" + INDEX,
        "int inTimed(int, int, int)" + INDEX,
        "int seen(int, int, int)" + INDEX,
        "int size(int, int)" + INDEX,
        "int same(int, int)" + INDEX,
        "int below(int, int)" + INDEX,
    };
    // What the rules 1, 2, 4, 6 and 13 rule out, as far as single words show it.
    private static final String[] RULED_OUT = {
        "^\\s*package\\b", "^\\s*import\\s+(?!java\\.util\\.)", "::", "\\)\\s*->", "\\w+Exact\\(", "\\bfinally\\b",
        "\\bsynchronized\\b", "\\bassert\\b", "\\bgetMessage\\b", "\\bThread\\b", "\\bRandom\\b", "\\brandom\\(",
        "\\bSystem\\.(?!arraycopy\\b)", "\\bcatch\\s*\\(\\s*(Exception|Throwable|Error|NullPointerException"
            + "|ArrayIndexOutOfBoundsException|ClassCastException|NegativeArraySizeException|ArrayStoreException)\\b",
    };

    private static final Check CHECK = new Check();

    public static void main(String[] args) throws IOException {
        Set<String> faceNames = new TreeSet<>();
        CHECK.tell("the face", new TreeSet<>(Arrays.asList(FACE)).toString(), publicMethods(faceNames).toString());
        CHECK.tell("public and final", "public final", Modifier.toString(DotStores.class.getModifiers()));
        CHECK.tell("constructors", "[public DotStores()]", Arrays.toString(DotStores.class.getDeclaredConstructors()));
        CHECK.tell("methods beside the face", "[]", odd(faceNames).toString());
        CHECK.tell("fields", "[public static final NONE]", openFields().toString());
        CHECK.tell("classes inside", "[]", openClasses().toString());
        CHECK.tell("words ruled out", "[]", wordsRuledOut().toString());
        CHECK.end();
    }

    private static Set<String> publicMethods(Set<String> names) {
        Set<String> face = new TreeSet<>();
        for (Method m : DotStores.class.getDeclaredMethods()) {
            if (Modifier.isPublic(m.getModifiers())) {
                names.add(m.getName());
                String thrown = m.getExceptionTypes().length == 0 ? "" : " throws " + listed(m.getExceptionTypes());
                face.add(m.getReturnType() + " " + m.getName() + "(" + listed(m.getParameterTypes()) + ")" + thrown);
            }
        }
        return face;
    }

    private static String listed(Class<?>[] types) {
        List<String> names = new ArrayList<>();
        for (Class<?> type : types) {
            names.add(type.getSimpleName());
        }
        return String.join(", ", names);
    }

    /** Methods that are neither of the face nor private, or private with a name or a length that the rules forbid. */
    private static List<String> odd(Set<String> faceNames) {
        List<String> odd = new ArrayList<>();
        for (Method m : DotStores.class.getDeclaredMethods()) {
            boolean hidden = Modifier.isPrivate(m.getModifiers());
            boolean likeTheFace = faceNames.contains(m.getName());
            if (hidden == likeTheFace || m.getParameterCount() > 7) {
                odd.add(m.toString());
            }
        }
        return odd;
    }

    private static List<String> openFields() {
        List<String> open = new ArrayList<>();
        for (Field f : DotStores.class.getDeclaredFields()) {
            int how = f.getModifiers();
            boolean loose = Modifier.isStatic(how) && !Modifier.isFinal(how);
            if (!Modifier.isPrivate(how) || loose) {
                open.add(Modifier.toString(how) + " " + f.getName());
            }
        }
        return open;
    }

    private static List<String> openClasses() {
        List<String> open = new ArrayList<>();
        for (Class<?> c : DotStores.class.getDeclaredClasses()) {
            int how = c.getModifiers();
            if (!Modifier.isStatic(how) || Modifier.isPublic(how) || Modifier.isProtected(how)) {
                open.add(c.toString());
            }
        }
        return open;
    }

    private static List<String> wordsRuledOut() throws IOException {
        String text = Files.readString(Path.of("src/main/java/DotStores.java"));
        List<String> found = new ArrayList<>();
        for (String word : RULED_OUT) {
            if (Pattern.compile(word, Pattern.MULTILINE).matcher(text).find()) {
                found.add(word);
            }
        }
        return found;
    }
}
