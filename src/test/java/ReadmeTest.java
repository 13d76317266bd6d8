import java.io.IOException;
import java.lang.reflect.InvocationTargetException;
import java.lang.reflect.Method;
import java.lang.reflect.Modifier;
import java.nio.file.Files;
import java.nio.file.Path;
import java.util.regex.Matcher;
import java.util.regex.Pattern;

/** What README.md says of the calls: its example answers as it says, and it names every call. */
public final class ReadmeTest {
    private static final Pattern CALL = Pattern.compile("x\\.(\\w+)\\(([^)]*)\\);\\s*// (-?\\d+): .+");
    private static int asked = 0;
    private static int wrong = 0;

    public static void main(String[] args) throws IOException, ReflectiveOperationException {
        String text = Files.readString(Path.of("README.md"));
        followExample(text);
        lookForEachCall(text);
        System.out.println(asked + " answers asked, " + wrong + " not as due");
        if (wrong != 0) {
            System.exit(1);
        }
    }

    private static void due(boolean holds, String what) {
        asked++;
        if (!holds) {
            wrong++;
            System.out.println(what);
        }
    }

    private static void followExample(String text) throws ReflectiveOperationException {
        int from = text.indexOf("```java\n");
        int to = text.indexOf("\n```", from + 1);
        due(from >= 0 && to > from, "README.md has no example");
        if (from < 0 || to <= from) {
            return;
        }
        String[] lines = text.substring(from, to).split("\n");
        due(lines.length > 3 && lines[1].equals("BlowSeeker x = new BlowSeeker();"), "it does not begin as it should");
        BlowSeeker x = new BlowSeeker();
        for (int i = 2; i < lines.length; i++) {
            Matcher call = CALL.matcher(lines[i]);
            boolean plain = call.matches();
            due(plain, "no call with an answer: " + lines[i]);
            if (plain) {
                int got = answer(x, call.group(1), call.group(2));
                due(got == Integer.parseInt(call.group(3)), lines[i] + " -- answered " + got);
            }
        }
    }

    private static int answer(BlowSeeker x, String name, String numbers)
            throws IllegalAccessException, InvocationTargetException {
        String[] texts = numbers.isEmpty() ? new String[0] : numbers.split(", ");
        Object[] arguments = new Object[texts.length];
        for (int i = 0; i < texts.length; i++) {
            arguments[i] = Integer.valueOf(texts[i]);
        }
        for (Method method : BlowSeeker.class.getDeclaredMethods()) {
            boolean open = Modifier.isPublic(method.getModifiers());
            if (open && method.getName().equals(name) && method.getParameterCount() == arguments.length) {
                return (Integer) method.invoke(x, arguments);
            }
        }
        due(false, "no such call: " + name);
        return Integer.MIN_VALUE;
    }

    private static void lookForEachCall(String text) {
        for (Method method : BlowSeeker.class.getDeclaredMethods()) {
            if (Modifier.isPublic(method.getModifiers())) {
                String row = "| `" + method.getName() + "(";
                due(text.contains(row), "README.md has no row for " + method.getName());
            }
        }
    }
}
