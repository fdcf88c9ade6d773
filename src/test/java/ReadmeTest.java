import java.io.IOException;
import java.lang.reflect.Method;
import java.nio.file.Files;
import java.nio.file.Path;
import java.util.Arrays;
import java.util.regex.Matcher;
import java.util.regex.Pattern;

/** Makes the calls that README.md shows: each answers the number behind it. Runs in the project's folder. */
public final class ReadmeTest {
    private static final Check CHECK = new Check("ReadmeTest");
    private static final Pattern CALL = Pattern.compile("room\\.(\\w+)\\(([-\\d, ]*)\\); +// (-?\\d+)(:.*)?$");

    public static void main(String[] args) throws IOException, ReflectiveOperationException {
        RayRoom room = new RayRoom();
        for (String line : example()) {
            Matcher call = CALL.matcher(line);
            if (call.find()) {
                CHECK.due(line, answer(room, call.group(1), call.group(2)), Long.parseLong(call.group(3)));
            } else {
                CHECK.dueTrue("a call with its answer: " + line,
                    line.isBlank() || line.equals("RayRoom room = new RayRoom();"));
            }
        }
        CHECK.end();
    }

    private static String[] example() throws IOException {
        String text = Files.readString(Path.of("README.md"));
        int start = text.indexOf("```java\n") + 8;
        return text.substring(start, text.indexOf("```", start)).split("\n");
    }

    private static long answer(RayRoom room, String name, String given) throws ReflectiveOperationException {
        Object[] values = Pattern.compile("-?\\d+").matcher(given).results().map(r -> Integer.valueOf(r.group())).toArray();
        Class<?>[] types = new Class<?>[values.length];
        Arrays.fill(types, int.class);
        Method method = RayRoom.class.getMethod(name, types);
        return ((Number) method.invoke(room, values)).longValue();
    }
}
