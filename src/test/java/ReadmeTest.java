import java.io.IOException;
import java.lang.reflect.Field;
import java.lang.reflect.InvocationTargetException;
import java.lang.reflect.Method;
import java.lang.reflect.Modifier;
import java.nio.file.Files;
import java.nio.file.Path;
import java.util.HashMap;
import java.util.Map;
import java.util.regex.Matcher;
import java.util.regex.Pattern;

/**
 * The examples of README.md, line by line: a call answers what stands behind its sign //, ahead of a
 * colon. Its second argument is the page's file.
 */
public final class ReadmeTest {
    private static final String NEW_YARD = "Stresswork yard = new Stresswork();";
    private static final Pattern CALL = Pattern.compile(
            "(?:int (\\w+) = )?yard\\.(\\w+)\\((.*?)\\);(?:\\s*// (throws )?([-\\w]+)(?::? .*)?)?");
    private static final Check CHECK = new Check();

    private final Map<String, Integer> names = new HashMap<>();
    private Stresswork yard = new Stresswork();

    private ReadmeTest() throws IllegalAccessException {
        for (Field field : Stresswork.class.getFields()) {
            names.put("Stresswork." + field.getName(), field.getInt(null));
        }
    }

    public static void main(String[] args) throws IOException, IllegalAccessException {
        String page = Files.readString(Path.of(args[1]));
        namesAll(page);
        Matcher example = Pattern.compile("(?s)```java\n(.*?)```").matcher(page);
        int examples = 0;
        while (example.find()) {
            new ReadmeTest().run(example.group(1));
            examples++;
        }
        CHECK.same(true, examples > 0, "that there are examples");
        CHECK.end("ReadmeTest");
    }

    private static void namesAll(String page) {
        for (Method method : Stresswork.class.getDeclaredMethods()) {
            if (Modifier.isPublic(method.getModifiers())) {
                CHECK.same(true, page.contains("`" + method.getName() + "("), "that the page tells of " + method.getName());
            }
        }
        for (Field field : Stresswork.class.getFields()) {
            CHECK.same(true, page.contains(field.getName()), "that the page tells of " + field.getName());
        }
    }

    private void run(String example) {
        for (String line : example.split("\n")) {
            Matcher call = CALL.matcher(line);
            if (line.equals(NEW_YARD)) {
                yard = new Stresswork();
            } else if (call.matches()) {
                check(line, call);
            } else {
                CHECK.same("a call", line, "a line of an example");
            }
        }
    }

    private void check(String line, Matcher call) {
        String due = call.group(5);
        boolean thrown = call.group(4) != null;
        Object got = answer(call.group(2), call.group(3));
        if (call.group(1) != null && got instanceof Integer number) {
            names.put(call.group(1), number);
        }
        // A line that tells no answer must still be one that throws nothing.
        boolean threw = got instanceof RuntimeException;
        CHECK.same(thrown, threw, line + " whether it throws");
        if (due != null) {
            CHECK.same(due, threw ? got.getClass().getSimpleName() : String.valueOf(got), line);
        }
    }

    private Object answer(String name, String texts) {
        String[] parts = texts.isEmpty() ? new String[0] : texts.split(", ");
        Object[] arguments = new Object[parts.length];
        for (int i = 0; i < parts.length; i++) {
            arguments[i] = argument(parts[i]);
        }
        for (Method method : Stresswork.class.getDeclaredMethods()) {
            if (method.getName().equals(name) && Modifier.isPublic(method.getModifiers())) {
                return invoke(method, arguments);
            }
        }
        return "no such call";
    }

    private Object argument(String text) {
        if (text.equals("true") || text.equals("false")) {
            return text.equals("true");
        }
        return names.containsKey(text) ? names.get(text) : Integer.valueOf(text);
    }

    /** What the call answers, or the exception that it throws. */
    private Object invoke(Method method, Object[] arguments) {
        try {
            return method.invoke(yard, arguments);
        } catch (InvocationTargetException thrown) {
            return thrown.getCause();
        } catch (IllegalAccessException hidden) {
            return "a hidden call";
        }
    }
}
