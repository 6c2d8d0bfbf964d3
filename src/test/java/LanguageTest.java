import java.io.IOException;
import java.lang.reflect.Field;
import java.lang.reflect.Member;
import java.lang.reflect.Method;
import java.lang.reflect.Modifier;
import java.nio.charset.StandardCharsets;
import java.nio.file.Files;
import java.nio.file.Path;
import java.util.ArrayList;
import java.util.List;
import java.util.Set;
import java.util.TreeSet;
import java.util.regex.Matcher;
import java.util.regex.Pattern;

/** What LANGUAGE.md rules out and can be seen from the source's words or from the class itself. */
public final class LanguageTest {
    private static final String[] RULED_OUT = {"\\bthrow\\b", "\\bthrows\\b", "\\btry\\b", "\\bcatch\\b", "\\bsynchronized\\b",
        "\\bassert\\b", "->", "::", "\\bpackage\\b", "\\bstatic\\s*\\{", "\\bgetClass\\b", "\\bhashCode\\b", "\\bfinalize\\b",
        "\\btoString\\s*\\(\\s*\\)\\s*\\{", "\\bHashMap\\b", "\\bNaN\\b", "Exact\\s*\\(", "\\bThread\\b", "\\bRandom\\b",
        "\\bcurrentTimeMillis\\b", "\\bnanoTime\\b", "@", "\"\\s*\\+", "\\+\\s*\"",
        "\\bObject\\b", "\\bprotected\\b"};
    private static final String FACE = "row(int,int,int)int set(int,int,long)int copy(int,int,int,int,int)int element(int,int)long "
        + "holds(int)int show(int,int,int)int says(int,int)int feed(int)int wipe()int line()int drop()int mode(int)int cast(int)int "
        + "work(int)int run(int,int,int)int rip(int)int causes()int why(int,int)int lineOf(int,int)int text(int,int)int "
        + "would(int,int,int)int hitch(int,int)int fits(int)long least()int times(int,int)int workedOf(int,int)int "
        + "stitch(int,int,int)int chart(int,int)int shorthand(int,int)int unit(int)int mirrored(int,int)int even(int)int "
        + "roots(int,int)long origin(int)long yarn()long many(int)int differ(int,int)int judge(int,int,int)int days(int)int "
        + "seed(int)int image()int back()int status(int)int";

    public static void main(String[] args) throws IOException {
        Path source = Path.of(System.getProperty("knit.source", "src/main/java/KnitReader.java"));
        String text = new String(Files.readAllBytes(source), StandardCharsets.ISO_8859_1);
        String code = text.replaceAll("(?s)/\\*.*?\\*/", "").replaceAll("//[^\n]*", "");
        words(code);
        imports(code);
        library(code);
        signs(text);
        lengths(code);
        face();
        staticFields(KnitReader.class);
        sizes(KnitReader.class);
        names();
        Due.end("LanguageTest");
    }

    private static void words(String code) {
        for (String word : RULED_OUT) {
            Due.due("found " + word, Pattern.compile(word).matcher(code).find() ? 1 : 0, 0);
        }
    }

    private static void imports(String code) {
        Matcher m = Pattern.compile("import\\s+([\\w.*\\s]+);").matcher(code);
        Set<String> allowed = Set.of("java.util.Arrays", "java.util.ArrayList", "java.util.List", "java.util.Iterator");
        while (m.find()) {
            Due.due("import " + m.group(1), allowed.contains(m.group(1)) ? 1 : 0, 1);
        }
    }

    /** Static functions of the library: those of Integer, Long and Math over int and long, and these. */
    private static void library(String code) {
        Set<String> own = new TreeSet<>();
        for (Class<?> inner : KnitReader.class.getDeclaredClasses()) {
            own.add(inner.getSimpleName());
        }
        Set<String> allowed = Set.of("System.arraycopy", "Arrays.copyOf", "Arrays.copyOfRange", "Arrays.fill", "List.of");
        Matcher m = Pattern.compile("\\b([A-Z]\\w*)\\s*\\.\\s*(\\w+)\\s*\\(").matcher(code);
        while (m.find()) {
            boolean isNumbers = m.group(1).equals("Math") || m.group(1).equals("Integer") || m.group(1).equals("Long");
            String name = m.group(1) + "." + m.group(2);
            Due.due("a call of " + name, isNumbers || own.contains(m.group(1)) || allowed.contains(name) ? 1 : 0, 1);
        }
        Due.due("classes inside", own.size() <= 12 ? 1 : 0, 1);
    }

    /** Methods stay short (some sixty lines): what stands one within the class, or one within a class inside it. */
    private static void lengths(String code) {
        String[] lines = code.split("\n", -1);
        Pattern head = Pattern.compile("^( {4}| {8})[A-Za-z][^=;]*\\([^=;]*\\) \\{$");
        int methods = 0;
        for (int i = 0; i < lines.length; i++) {
            Matcher m = head.matcher(lines[i]);
            if (m.matches() && !lines[i].matches("\\s*(if|for|while|switch|do|else)\\b.*")) {
                int end = i;
                while (end < lines.length && !lines[end].equals(m.group(1) + "}")) {
                    end++;
                }
                methods++;
                Due.due("lines of " + lines[i].strip() + ", " + (end - i + 1), end - i < 60 ? 1 : 0, 1);
            }
        }
        Due.due("methods found, " + methods, methods > 100 ? 1 : 0, 1);
    }

    /** A method takes at most seven parameters; a class has some twenty fields beside its constants. */
    private static void sizes(Class<?> type) {
        int fields = 0;
        for (Field field : type.getDeclaredFields()) {
            fields += Modifier.isStatic(field.getModifiers()) ? 0 : 1;
        }
        Due.due("fields of " + type.getName() + ", " + fields, fields <= 20 ? 1 : 0, 1);
        for (Method method : type.getDeclaredMethods()) {
            Due.due("parameters of " + method, method.getParameterCount() <= 7 ? 1 : 0, 1);
        }
        for (Class<?> inner : type.getDeclaredClasses()) {
            sizes(inner);
        }
    }

    private static void signs(String text) {
        for (int i = 0; i < text.length(); i++) {
            if (text.charAt(i) > 126) {
                Due.due("the sign at " + i, text.charAt(i), 126);
            }
        }
    }

    private static String told(Method method) {
        List<String> types = new ArrayList<>();
        for (Class<?> type : method.getParameterTypes()) {
            types.add(type.getName());
        }
        return method.getName() + "(" + String.join(",", types) + ")" + method.getReturnType().getName();
    }

    private static void face() {
        Set<String> due = new TreeSet<>(List.of(FACE.split(" ")));
        Set<String> found = new TreeSet<>();
        for (Method method : KnitReader.class.getDeclaredMethods()) {
            if (!Modifier.isPrivate(method.getModifiers()) && !method.isSynthetic()) {
                found.add(told(method));
            }
        }
        Due.due("methods " + found, found.equals(due) ? 1 : 0, 1);
        for (Field field : KnitReader.class.getDeclaredFields()) {
            boolean isNone = field.getName().equals("NONE");
            Due.due("field " + field.getName(), Modifier.isPrivate(field.getModifiers()) ? 0 : 1, isNone ? 1 : 0);
        }
        Due.due("constructors", KnitReader.class.getDeclaredConstructors().length, 1);
        Due.due("the class is final", Modifier.isFinal(KnitReader.class.getModifiers()) ? 1 : 0, 1);
    }

    private static void staticFields(Class<?> type) {
        for (Field field : type.getDeclaredFields()) {
            if (Modifier.isStatic(field.getModifiers())) {
                Due.due("static " + field, Modifier.isFinal(field.getModifiers()) ? 1 : 0, 1);
            }
        }
        for (Class<?> inner : type.getDeclaredClasses()) {
            Due.due("static " + inner, Modifier.isStatic(inner.getModifiers()) ? 1 : 0, 1);
            Due.due("not public " + inner, inner.getModifiers() & (Modifier.PUBLIC | Modifier.PROTECTED), 0);
            staticFields(inner);
        }
    }

    private static void names() {
        Set<String> face = new TreeSet<>();
        for (String method : FACE.split(" ")) {
            face.add(method.substring(0, method.indexOf('(')));
        }
        for (Class<?> type : KnitReader.class.getDeclaredClasses()) {
            for (Member method : type.getDeclaredMethods()) {
                Due.due("the name of " + method, face.contains(method.getName()) ? 1 : 0, 0);
            }
        }
        for (Member method : KnitReader.class.getDeclaredMethods()) {
            boolean isPrivate = Modifier.isPrivate(method.getModifiers());
            Due.due("the name of " + method, isPrivate && face.contains(method.getName()) ? 1 : 0, 0);
        }
    }
}
