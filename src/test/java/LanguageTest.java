import java.io.IOException;
import java.lang.reflect.Constructor;
import java.lang.reflect.Field;
import java.lang.reflect.Method;
import java.lang.reflect.Modifier;
import java.nio.file.Files;
import java.nio.file.Path;
import java.util.Arrays;
import java.util.Set;
import java.util.TreeSet;
import java.util.regex.Matcher;
import java.util.regex.Pattern;
import java.util.stream.Collectors;

/** The public face, and those rules of LANGUAGE.md that can be looked up. Runs in the project's folder. */
public final class LanguageTest {
    private static final Check CHECK = new Check("LanguageTest");
    private static final String FACE = "int point(int,int,int); int triangle(int); int move(int,int); int drop(); "
        + "int eye(); int axis(int,int,int,int); int size(int,int); int light(int,int); int set(int,int,int); "
        + "int build(int); int refit(); int node(int,int); int order(int); int hit(int,int); long told(int); "
        + "int cross(int,int); int crossing(int); int meets(int,int,int); int lit(int,int,int); "
        + "int shadow(int,int,int); int pixel(int,int); int picture(int,int,int,int); int seen(int); "
        + "int facing(int); int touched(int); int shared(int,int); int count(int)";

    public static void main(String[] args) throws IOException {
        face();
        noOtherMembers();
        nestedClasses();
        String code = withoutComments(Files.readString(Path.of("src/main/java/RayRoom.java")));
        words(code);
        madeOnce(code);
        methodLengths(code);
        CHECK.end();
    }

    private static void face() {
        Set<String> got = new TreeSet<>();
        for (Method m : RayRoom.class.getDeclaredMethods()) {
            if (Modifier.isPublic(m.getModifiers())) {
                got.add(m.getReturnType().getName() + " " + m.getName() + "("
                    + Arrays.stream(m.getParameterTypes()).map(Class::getName).collect(Collectors.joining(",")) + ")");
            }
        }
        CHECK.dueTrue("rule 1: the face is " + got, got.equals(new TreeSet<>(Arrays.asList(FACE.split("; ")))));
        CHECK.dueTrue("rule 1: public and final", Modifier.isPublic(RayRoom.class.getModifiers())
            && Modifier.isFinal(RayRoom.class.getModifiers()));
        Constructor<?>[] made = RayRoom.class.getDeclaredConstructors();
        CHECK.dueTrue("rule 1: one constructor", made.length == 1 && Modifier.isPublic(made[0].getModifiers())
            && made[0].getParameterCount() == 0);
    }

    private static void noOtherMembers() {
        for (Method m : RayRoom.class.getDeclaredMethods()) {
            CHECK.dueTrue("rule 1: public or private: " + m,
                Modifier.isPublic(m.getModifiers()) || Modifier.isPrivate(m.getModifiers()));
        }
        Set<String> open = new TreeSet<>();
        for (Field f : RayRoom.class.getDeclaredFields()) {
            if (!Modifier.isPrivate(f.getModifiers())) {
                open.add(f.getName());
            }
        }
        CHECK.dueTrue("rule 1: constants " + open, open.equals(Set.of("BAD", "NONE")));
    }

    private static void nestedClasses() {
        Set<String> names = new TreeSet<>();
        for (Method m : RayRoom.class.getDeclaredMethods()) {
            if (Modifier.isPublic(m.getModifiers())) {
                names.add(m.getName());
            }
        }
        Class<?>[] nested = RayRoom.class.getDeclaredClasses();
        CHECK.dueTrue("rule 11: some twelve classes", nested.length + 1 <= 12);
        for (Class<?> c : nested) {
            CHECK.dueTrue("rule 2: static: " + c, Modifier.isStatic(c.getModifiers()));
            CHECK.dueTrue("rule 1: not public: " + c, !Modifier.isPublic(c.getModifiers())
                && !Modifier.isProtected(c.getModifiers()));
            for (Method m : c.getDeclaredMethods()) {
                CHECK.dueTrue("rule 1: no name of the face: " + m, !names.contains(m.getName()));
            }
            fields(c);
        }
        for (Method m : RayRoom.class.getDeclaredMethods()) {
            CHECK.dueTrue("rule 1: no name of the face: " + m,
                Modifier.isPublic(m.getModifiers()) || !names.contains(m.getName()));
        }
        fields(RayRoom.class);
    }

    private static void fields(Class<?> c) {
        int own = 0;
        for (Field f : c.getDeclaredFields()) {
            if (Modifier.isStatic(f.getModifiers())) {
                CHECK.dueTrue("rule 5: a constant: " + f, Modifier.isFinal(f.getModifiers())
                    && (f.getType() == int.class || f.getType() == long.class));
            } else {
                own++;
            }
        }
        CHECK.dueTrue("rule 11: some twenty fields: " + c, own <= 20);
        for (Method m : c.getDeclaredMethods()) {
            CHECK.dueTrue("rule 11: seven parameters: " + m, m.getParameterCount() <= 7);
        }
    }

    private static String withoutComments(String text) {
        return text.replaceAll("(?s)/\\*.*?\\*/", "").replaceAll("//[^\n]*", "");
    }

    private static void words(String code) {
        for (String word : new String[] {"throw", "try", "catch", "synchronized", "assert", "import", "package",
            "double", "float", "equals", "hashCode", "toString", "volatile", "native", "protected"}) {
            CHECK.dueTrue("no word " + word, !Pattern.compile("\\b" + word + "\\b").matcher(code).find());
        }
        for (String sign : new String[] {"->", "::", "Exact", "\""}) {
            CHECK.dueTrue("no " + sign, !code.contains(sign));
        }
        Matcher call = Pattern.compile("\\b(Math|Integer|Long|System|Arrays)\\.(\\w+)").matcher(code);
        Set<String> listed = Set.of("Math.min", "Math.max", "Math.abs", "System.arraycopy");
        while (call.find()) {
            CHECK.dueTrue("rule 4: listed: " + call.group(), listed.contains(call.group()));
        }
    }

    /** No call makes an object: every new stands in a field of its own. */
    private static void madeOnce(String code) {
        for (String line : code.split("\n")) {
            if (line.contains("new ")) {
                CHECK.dueTrue("made once: " + line.trim(), line.trim().startsWith("private final "));
            }
        }
    }

    private static void methodLengths(String code) {
        Matcher head = Pattern.compile("(?m)^( +)[\\w\\[\\] ]+\\([^;{]*\\) \\{$").matcher(code);
        while (head.find()) {
            int end = code.indexOf("\n" + head.group(1) + "}", head.end());
            CHECK.dueTrue("an end of " + head.group().trim(), end > 0);
            long lines = code.substring(head.start(), end).lines().count();
            CHECK.dueTrue("rule 11: short: " + head.group().trim(), lines <= 60);
        }
    }
}
