import java.io.IOException;
import java.lang.reflect.Constructor;
import java.lang.reflect.Field;
import java.lang.reflect.Member;
import java.lang.reflect.Method;
import java.lang.reflect.Modifier;
import java.nio.file.Files;
import java.nio.file.Path;
import java.util.Arrays;
import java.util.TreeSet;
import java.util.regex.Pattern;

/** The document's public face, and those rules of LANGUAGE.md that can be seen from outside. */
public final class FaceTest {
    private static final Check CHECK = new Check();
    private static final String A = " throws IllegalArgumentException";
    private static final String S = " throws IllegalStateException";
    private static final String I = " throws IndexOutOfBoundsException";
    private static final String[] FACE = {
        "void set(int, int, int)" + A,
        "void part(int, int, int, boolean)" + A + "," + S.replace(" throws", ""),
        "int type(int)" + A + "," + S.replace(" throws", ""),
        "void wipe()", "int bring(boolean)" + S, "int at(int)" + I, "boolean cluster(int)" + I,
        "int clusters()", "int line(int)" + I, "int level(int, int)" + I, "int order(int, int)" + I,
        "int key()", "int keyAt(int)" + I, "void keep(int)" + I, "int compare(int)" + I,
        "boolean same(int)" + I,
    };
    private static final String[] FORBIDDEN = {
        "^\\s*import\\b", "^\\s*package\\b", "->", "::", "\\bfinally\\b", "\\bsynchronized\\b",
        "\\bassert\\b", "\\bSystem\\.(?!arraycopy)", "\\bgetMessage\\b", "\\bstatic\\s*\\{",
        "\\bjava\\.", "Exact\\(", "\\btry\\b", "\\bcatch\\b", "\\bfloat\\b", "\\bdouble\\b",
        "throw (?!new Illegal(Argument|State)Exception\\(\"|new IndexOutOfBoundsException\\(\")",
        "\\binstanceof\\b", "\\bMath\\.(?!min|max)", "\\bInteger\\.(?!compare)", "\\bvar\\b",
        "[^\\x00-\\x7f]",
    };
    private static final Pattern METHOD = Pattern.compile("( {4}| {8})(?!.*\\bclass\\b)\\w.*\\(.*");
    private static final Pattern CONSTRUCTOR = Pattern.compile(" +(public )?[A-Z]\\w*\\(.*");
    private static final int LONGEST_METHOD = 60;

    public static void main(String[] args) throws IOException {
        Class<?> face = TextPipeline.class;
        CHECK.due("modifiers", Modifier.toString(face.getModifiers()), "public final");
        CHECK.due("package", face.getPackageName(), "");
        CHECK.due("super class", face.getSuperclass().getName(), "java.lang.Object");
        publicMethods(face);
        constructors(face);
        hiddenMembers(face);
        String source = Files.readString(Path.of("src", "main", "java", "TextPipeline.java"));
        forbiddenWords(source);
        methods(source.split("\n"));
        CHECK.end();
    }

    private static void publicMethods(Class<?> face) {
        TreeSet<String> got = new TreeSet<>();
        TreeSet<String> names = new TreeSet<>();
        for (Method m : face.getDeclaredMethods()) {
            if (Modifier.isPublic(m.getModifiers())) {
                got.add(described(m));
                names.add(m.getName());
            }
        }
        CHECK.due("public methods", got.toString(), new TreeSet<>(Arrays.asList(FACE)).toString());
        bearNone(face, names);
        for (Class<?> inside : face.getDeclaredClasses()) {
            bearNone(inside, names);
        }
    }

    private static void bearNone(Class<?> where, TreeSet<String> names) {
        for (Method m : where.getDeclaredMethods()) {
            if (!Modifier.isPublic(m.getModifiers()) && names.contains(m.getName())) {
                CHECK.note("a hidden method bears a public name: " + m);
            }
        }
    }

    private static String described(Method m) {
        return m.getReturnType() + " " + m.getName() + joined("(", m.getParameterTypes()) + ")"
                + (m.getExceptionTypes().length == 0 ? "" : joined(" throws ", m.getExceptionTypes()));
    }

    private static String joined(String front, Class<?>[] types) {
        StringBuilder all = new StringBuilder(front);
        for (int i = 0; i < types.length; i++) {
            all.append(i == 0 ? "" : ", ").append(types[i].getSimpleName());
        }
        return all.toString();
    }

    private static void constructors(Class<?> face) {
        Constructor<?>[] all = face.getDeclaredConstructors();
        CHECK.due("constructors", all.length, 1);
        CHECK.due("its parameters", all[0].getParameterCount(), 0);
        CHECK.due("it is public", Modifier.isPublic(all[0].getModifiers()), true);
    }

    private static void hiddenMembers(Class<?> face) {
        for (Field f : face.getDeclaredFields()) {
            isPrivate(f);
        }
        for (Method m : face.getDeclaredMethods()) {
            if (!Modifier.isPublic(m.getModifiers())) {
                isPrivate(m);
            }
        }
        CHECK.due("classes inside, with itself", face.getDeclaredClasses().length + 1 <= 12, true);
        for (Class<?> inside : face.getDeclaredClasses()) {
            int how = inside.getModifiers();
            boolean isHidden = !Modifier.isPublic(how) && !Modifier.isProtected(how);
            CHECK.due("hidden and static: " + inside, isHidden && Modifier.isStatic(how), true);
            staticFieldsAreFinal(inside);
            staysSmall(inside);
        }
        staticFieldsAreFinal(face);
        staysSmall(face);
    }

    private static void isPrivate(Member m) {
        CHECK.due("private: " + m, Modifier.isPrivate(m.getModifiers()), true);
    }

    private static void staticFieldsAreFinal(Class<?> where) {
        for (Field f : where.getDeclaredFields()) {
            if (Modifier.isStatic(f.getModifiers())) {
                CHECK.due("final: " + f, Modifier.isFinal(f.getModifiers()), true);
            }
        }
    }

    private static void staysSmall(Class<?> where) {
        for (Method m : where.getDeclaredMethods()) {
            CHECK.due("at most seven parameters: " + m, m.getParameterCount() <= 7, true);
        }
        long fields = Arrays.stream(where.getDeclaredFields())
                .filter(f -> !Modifier.isStatic(f.getModifiers())).count();
        CHECK.due("at most twenty fields: " + where, fields <= 20, true);
    }

    private static void forbiddenWords(String source) {
        for (String word : FORBIDDEN) {
            boolean isThere = Pattern.compile(word, Pattern.MULTILINE).matcher(source).find();
            CHECK.due("the source has " + word, isThere, false);
        }
    }

    /** Methods are short, and objects are made by constructors alone, but for exceptions. */
    private static void methods(String[] lines) {
        int found = 0;
        for (int i = 0; i < lines.length; i++) {
            if (METHOD.matcher(lines[i]).matches() && !lines[i].endsWith(";")) {
                found++;
                int end = endOf(lines, i);
                CHECK.due("a short method: " + lines[i], end - i < LONGEST_METHOD, true);
                if (!CONSTRUCTOR.matcher(lines[i]).matches()) {
                    makesNothing(lines, i, end);
                }
                i = end;
            }
        }
        CHECK.due("methods are found in the source", found > FACE.length, true);
    }

    private static int endOf(String[] lines, int start) {
        String close = lines[start].replaceAll("\\S.*", "") + "}";
        int end = start;
        while (end < lines.length && !lines[end].equals(close)) {
            end++;
        }
        return end;
    }

    private static void makesNothing(String[] lines, int start, int end) {
        for (int i = start; i < end; i++) {
            boolean isMade = lines[i].replace("throw new", "").matches(".*\\bnew\\b.*");
            CHECK.due("an object is made by a method: " + lines[i].strip(), isMade, false);
        }
    }
}
