import java.io.IOException;
import java.lang.reflect.Method;
import java.nio.charset.StandardCharsets;
import java.nio.file.Files;
import java.nio.file.Path;
import java.util.regex.Matcher;
import java.util.regex.Pattern;

/** Each call in README.md answers what stands behind it there, and each method of the face is told there. */
public final class ReadmeTest {
    private static final Pattern BLOCK = Pattern.compile("(?s)```java\n(.*?)```");
    private static final Pattern CALL = Pattern.compile("x\\.(\\w+)\\(([-\\d, ]*)\\); *// (-?\\d+)(: .+)?");
    private static final Pattern TOLD = Pattern.compile("tell\\(x, \"([^\"]*)\"\\); *// (-?\\d+)(: .+)?");

    public static void main(String[] args) throws ReflectiveOperationException, IOException {
        Path path = Path.of(System.getProperty("knit.readme", "README.md"));
        String text = Files.readString(path, StandardCharsets.ISO_8859_1);
        Matcher block = BLOCK.matcher(text);
        int blocks = 0;
        while (block.find()) {
            blocks++;
            made(block.group(1).split("\n"));
        }
        Due.due("blocks of calls", blocks, 2);
        for (Method method : KnitReader.class.getMethods()) {
            if (method.getDeclaringClass() == KnitReader.class) {
                Due.due(method.getName() + " is told", text.contains("`" + method.getName() + "`") ? 1 : 0, 1);
            }
        }
        Due.end("ReadmeTest");
    }

    private static void made(String[] lines) throws ReflectiveOperationException {
        Due.due("an object is made: " + lines[0], lines[0].equals("KnitReader x = new KnitReader();") ? 1 : 0, 1);
        KnitReader x = new KnitReader();
        for (int i = 1; i < lines.length; i++) {
            Matcher told = TOLD.matcher(lines[i]);
            Matcher call = CALL.matcher(lines[i]);
            if (told.matches()) {
                Due.due(lines[i], Due.tell(x, told.group(1)), Long.parseLong(told.group(2)));
            } else if (call.matches()) {
                Due.due(lines[i], answer(x, call.group(1), call.group(2)), Long.parseLong(call.group(3)));
            } else {
                Due.due("a line that is no call: " + lines[i], 1, 0);
            }
        }
    }

    private static long answer(KnitReader x, String name, String numbers) throws ReflectiveOperationException {
        String[] told = numbers.isEmpty() ? new String[0] : numbers.split(", ");
        for (Method method : KnitReader.class.getMethods()) {
            Class<?>[] types = method.getParameterTypes();
            if (method.getName().equals(name) && types.length == told.length) {
                Object[] given = new Object[told.length];
                for (int i = 0; i < told.length; i++) {
                    given[i] = types[i] == long.class ? (Object) Long.valueOf(told[i]) : (Object) Integer.valueOf(told[i]);
                }
                return ((Number) method.invoke(x, given)).longValue();
            }
        }
        Due.due("a method " + name + " of " + told.length, 0, 1);
        return 0;
    }
}
