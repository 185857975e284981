import java.io.IOException;
import java.lang.reflect.Constructor;
import java.lang.reflect.Field;
import java.lang.reflect.Method;
import java.lang.reflect.Modifier;
import java.nio.file.Files;
import java.nio.file.Path;
import java.util.Arrays;
import java.util.HashSet;
import java.util.Set;
import java.util.regex.Pattern;

/** The class's face is the document's and no more, and its text keeps to rules of LANGUAGE.md. */
public final class FaceTest {
    private static final Path SOURCE = Path.of("src/main/java/SparseFactor.java");
    private static final Path DOCUMENT = Path.of("../shared/DOC.md");
    private static final String INDEX = "IndexOutOfBoundsException";
    private static final String ARGUMENT = "IllegalArgumentException";
    private static final String STATE = "IllegalStateException";
    private static final String[] FACE = {
        "int setSize(int) " + ARGUMENT,
        "int size()",
        "int setEntry(int,int,int) " + INDEX + " " + ARGUMENT,
        "int entry(int,int) " + INDEX,
        "int linkCount()",
        "int determinant()",
        "boolean swap(int,int) " + INDEX,
        "int minimumDegree()",
        "int reverse()",
        "int position(int) " + INDEX,
        "int rowAt(int) " + INDEX,
        "int bandwidth()",
        "int profile()",
        "boolean isJoined(int,int) " + INDEX,
        "int fillCount()",
        "int width(int) " + INDEX,
        "int work()",
        "int parent(int) " + INDEX,
        "int depth(int) " + INDEX,
        "int subtree(int) " + INDEX,
        "int height()",
        "int meeting(int,int) " + INDEX,
        "int reached(int) " + ARGUMENT,
        "int factor()",
        "boolean hasFactors()",
        "int pivot(int) " + INDEX + " " + STATE,
        "int lower(int,int) " + INDEX + " " + STATE,
        "int setWeight(int,int) " + INDEX + " " + ARGUMENT,
        "int update(int) " + ARGUMENT + " " + STATE,
        "int setRight(int,int) " + INDEX + " " + ARGUMENT,
        "int solve() " + STATE,
        "int component(int) " + INDEX + " NoSuchElementException",
        "int inverse(int,int) " + INDEX + " " + STATE,
        "int push() " + STATE,
        "int pop() " + STATE,
        "long digest()",
    };
    /** Words that the rules leave out of the program, or that this program does without. */
    private static final String[] WORDS_LEFT_OUT = {
        "catch", "try", "finally", "assert", "synchronized", "double", "float", "->", "::",
        "package", "Exact", "System\\.(?!arraycopy)", "Random", "Thread", "equals", "hashCode",
        "toString", "getMessage",
    };

    private static final Checks checks = new Checks();

    public static void main(String[] args) throws IOException {
        document();
        classItself();
        methods();
        fields();
        classesInside();
        text();
        checks.end();
    }

    /** The list above is the one that stands in the document under 'The public face'. */
    private static void document() throws IOException {
        int count = 0;
        for (String line : Files.readAllLines(DOCUMENT)) {
            if (line.matches("    public \\w+ \\w+\\(.*\\).*;")) {
                String want = count < FACE.length ? FACE[count] : "no more";
                checks.due("line " + count + " of the face", asListed(line.trim()), want);
                count++;
            }
        }
        checks.due("methods in the document", count, FACE.length);
    }

    /** Takes the words public and throws, the parameters' names and packages out of a line. */
    private static String asListed(String line) {
        return line.replaceAll("public |throws |java\\.util\\.|;", "")
                .replaceAll("\\bint \\w+(?=[,)])", "int").replace(", ", ",")
                .replaceAll(",(?=\\w+Exception)", " ");
    }

    private static void classItself() {
        int kind = SparseFactor.class.getModifiers();
        checks.due("public", Modifier.isPublic(kind), true);
        checks.due("final", Modifier.isFinal(kind), true);
        Constructor<?>[] made = SparseFactor.class.getDeclaredConstructors();
        checks.due("constructors", made.length, 1);
        checks.due("constructor public", Modifier.isPublic(made[0].getModifiers()), true);
        checks.due("constructor's parameters", made[0].getParameterCount(), 0);
    }

    private static void methods() {
        Set<String> due = new HashSet<>(Arrays.asList(FACE));
        Set<String> names = new HashSet<>();
        for (Method m : SparseFactor.class.getDeclaredMethods()) {
            if (Modifier.isPublic(m.getModifiers())) {
                names.add(m.getName());
                checks.due("in the document: " + signature(m), due.remove(signature(m)), true);
                checks.due("static " + m.getName(), Modifier.isStatic(m.getModifiers()), false);
            } else {
                checks.due("private " + m.getName(), Modifier.isPrivate(m.getModifiers()), true);
            }
        }
        checks.due("missing " + due, due.size(), 0);
        for (Method m : SparseFactor.class.getDeclaredMethods()) {
            boolean hidden = !Modifier.isPublic(m.getModifiers());
            checks.due("a name of the face: " + m.getName(),
                    hidden && names.contains(m.getName()), false);
        }
    }

    private static String signature(Method m) {
        StringBuilder s = new StringBuilder();
        s.append(m.getReturnType().getSimpleName()).append(' ').append(m.getName()).append('(');
        for (int k = 0; k < m.getParameterCount(); k++) {
            s.append(k == 0 ? "" : ",").append(m.getParameterTypes()[k].getSimpleName());
        }
        s.append(')');
        for (Class<?> e : m.getExceptionTypes()) {
            s.append(' ').append(e.getSimpleName());
        }
        return s.toString();
    }

    private static void fields() {
        for (Field f : SparseFactor.class.getDeclaredFields()) {
            checks.due("private " + f.getName(), Modifier.isPrivate(f.getModifiers()), true);
            if (Modifier.isStatic(f.getModifiers())) {
                checks.due("final " + f.getName(), Modifier.isFinal(f.getModifiers()), true);
            }
        }
    }

    private static void classesInside() {
        checks.due("at most twelve classes",
                SparseFactor.class.getDeclaredClasses().length < 12, true);
        for (Class<?> c : SparseFactor.class.getDeclaredClasses()) {
            checks.due("static " + c, Modifier.isStatic(c.getModifiers()), true);
            checks.due("hidden " + c, Modifier.isPublic(c.getModifiers()), false);
            checks.due("hidden " + c, Modifier.isProtected(c.getModifiers()), false);
            for (Field f : c.getDeclaredFields()) {
                checks.due("no static state " + f, Modifier.isStatic(f.getModifiers()), false);
            }
            for (Method m : c.getDeclaredMethods()) {
                checks.due("a name of the face: " + m, isOnFace(m.getName()), false);
                checks.due("seven parameters " + m, m.getParameterCount() <= 7, true);
            }
        }
    }

    private static boolean isOnFace(String name) {
        for (String line : FACE) {
            if (line.contains(" " + name + "(")) {
                return true;
            }
        }
        return false;
    }

    private static void text() throws IOException {
        String code = Files.readString(SOURCE).replaceAll("(?s)/\\*.*?\\*/", "")
                .replaceAll("//[^\n]*", "").replaceAll("\"[^\"\n]*\"", "\"\"");
        for (String word : WORDS_LEFT_OUT) {
            String pattern = Character.isLetter(word.charAt(0)) ? "\\b" + word : word;
            if (word.equals("Exact")) {
                pattern = "Exact\\b";
            }
            checks.due("left out: " + word, Pattern.compile(pattern).matcher(code).find(), false);
        }
        for (String line : code.split("\n")) {
            if (line.startsWith("import")) {
                checks.due("imports", line.trim(), "import java.util.NoSuchElementException;");
            }
        }
    }
}
