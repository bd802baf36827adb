import java.io.IOException;
import java.lang.reflect.Field;
import java.lang.reflect.Method;
import java.lang.reflect.Modifier;
import java.nio.file.Files;
import java.nio.file.Path;
import java.util.List;
import java.util.regex.Matcher;
import java.util.regex.Pattern;

/** What README.md says of the class holds: the calls of its example, and its tables are whole. */
public final class ReadmeTest {
    private static final Pattern MADE = Pattern.compile("DesignPages store = new DesignPages\\((\\d+)\\);");
    private static final Pattern CALL = Pattern.compile("store\\.(\\w+)\\((.*)\\); +// (-?\\w+): .+");

    public static void main(String[] args) throws IOException, ReflectiveOperationException {
        List<String> lines = Files.readAllLines(Path.of("README.md"));
        example(lines.subList(lines.indexOf("```java") + 1, lines.size()));
        tables(lines);
        Check.end();
    }

    private static void example(List<String> lines) throws ReflectiveOperationException {
        DesignPages store = made(lines.get(0));
        int end = lines.indexOf("```");
        Check.due("the example has calls", end > 1, true);
        for (String line : lines.subList(1, end)) {
            Matcher call = CALL.matcher(line);
            boolean isCall = call.matches();
            Check.due("a call and its answer: " + line, isCall, true);
            if (isCall) {
                Check.due(line, answer(store, call.group(1), call.group(2)), number(call.group(3)));
            }
        }
    }

    private static DesignPages made(String line) {
        Matcher made = MADE.matcher(line);
        boolean isMade = made.matches();
        Check.due("the example makes an object first", isMade, true);
        return new DesignPages(isMade ? Integer.parseInt(made.group(1)) : 0);
    }

    private static int answer(DesignPages store, String name, String arguments) throws ReflectiveOperationException {
        String[] texts = arguments.isEmpty() ? new String[0] : arguments.split(", ");
        Class<?>[] types = new Class<?>[texts.length];
        Object[] values = new Object[texts.length];
        for (int i = 0; i < texts.length; i++) {
            types[i] = int.class;
            values[i] = number(texts[i]);
        }
        return (Integer) DesignPages.class.getMethod(name, types).invoke(store, values);
    }

    private static int number(String text) throws ReflectiveOperationException {
        boolean isName = Character.isLetter(text.charAt(0));
        return isName ? DesignPages.class.getField(text).getInt(null) : Integer.parseInt(text);
    }

    private static void tables(List<String> lines) throws IllegalAccessException {
        for (Method method : DesignPages.class.getDeclaredMethods()) {
            if (Modifier.isPublic(method.getModifiers())) {
                Check.due("rows of " + method.getName(), rows(lines, "| `" + method.getName() + "("), 1);
            }
        }
        for (Field field : DesignPages.class.getFields()) {
            String start = "| `" + field.getName() + "` | " + field.getInt(null) + " |";
            Check.due("rows of " + field.getName(), rows(lines, start), 1);
        }
    }

    private static long rows(List<String> lines, String start) {
        return lines.stream().filter(line -> line.startsWith(start)).count();
    }
}
