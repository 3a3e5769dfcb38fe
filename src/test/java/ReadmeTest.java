import java.io.IOException;
import java.lang.reflect.InvocationTargetException;
import java.lang.reflect.Method;
import java.nio.file.Files;
import java.nio.file.Path;
import java.util.regex.Matcher;
import java.util.regex.Pattern;

/** Makes the run of calls that README.md shows, line by line, and looks for the answers that it gives. */
public final class ReadmeTest extends MapFixture {
    private static final Pattern BLOCK = Pattern.compile("```java\\n(.*?)```", Pattern.DOTALL);
    private static final Pattern CALL = Pattern.compile(
            "map\\.(\\w+)\\(([-\\d, ]*)\\); +// (?:throws (\\w+)|([^: ]+))(?:: .*)?");
    private static final Pattern TEXT = Pattern.compile("for \\(char c : \"(.*)\"\\.toCharArray\\(\\)\\) \\{");

    public static void main(String[] args) throws IOException {
        Matcher block = BLOCK.matcher(Files.readString(Path.of("README.md")));
        Check.same("README.md shows a run of calls", "true", "" + block.find());
        String[] lines = block.group(1).split("\\n");
        Check.same("the first line", "true", "" + lines[0].startsWith("DustSheetMap map = new DustSheetMap();"));
        DustSheetMap map = new DustSheetMap();
        for (int i = 1; i < lines.length; i++) {
            follow(map, lines[i]);
        }
        Check.end();
    }

    private static void follow(DustSheetMap map, String line) {
        Matcher call = CALL.matcher(line);
        Matcher text = TEXT.matcher(line);
        if (call.matches()) {
            String want = call.group(3) == null ? call.group(4) : "throws." + call.group(3);
            Check.due("README.md: " + line, want, () -> answer(map, call.group(1), numbersOf(call.group(2))));
        } else if (text.matches()) {
            feed(map, text.group(1));
        } else {
            boolean partOfALoop = line.isEmpty() || line.equals("    map.feed(c);") || line.equals("}");
            Check.same("README.md: a line of a known form: " + line, "true", "" + partOfALoop);
        }
    }

    private static Object[] numbersOf(String list) {
        if (list.isEmpty()) {
            return new Object[0];
        }
        String[] texts = list.split(", ");
        Object[] numbers = new Object[texts.length];
        for (int i = 0; i < texts.length; i++) {
            numbers[i] = Integer.valueOf(texts[i]);
        }
        return numbers;
    }

    private static Object answer(DustSheetMap map, String name, Object[] numbers) {
        for (Method method : DustSheetMap.class.getMethods()) {
            if (method.getName().equals(name) && method.getParameterCount() == numbers.length) {
                try {
                    return method.invoke(map, numbers);
                } catch (InvocationTargetException e) {
                    throw (RuntimeException) e.getCause();
                } catch (IllegalAccessException e) {
                    throw new AssertionError(e);
                }
            }
        }
        throw new AssertionError("no method " + name);
    }
}
