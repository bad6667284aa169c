import java.lang.reflect.Method;
import java.lang.reflect.Modifier;
import java.nio.file.Files;
import java.nio.file.Path;
import java.util.Arrays;
import java.util.Set;
import java.util.TreeSet;
import java.util.regex.Matcher;
import java.util.regex.Pattern;

/** README.md shows calls with their answers and names every call: both are held against the class. Runs in the project's folder. */
public final class ReadmeTest {
    private static final Pattern LETTERS = Pattern.compile("\"([^\"]*)\"\\.toCharArray\\(\\)\\) x\\.feed\\(c\\);");
    private static final Pattern SHOWN = Pattern.compile("x\\.(\\w+)\\(([-0-9, ]*)\\); +// (-?[0-9]+)\\b.*");
    private static final Pattern NAMED = Pattern.compile("(?m)^\\| `(\\w+)\\(([\\w, ]*)\\)` \\|");

    private static int passed = 0;
    private static int failed = 0;

    private static void due(String what, Object got, Object want) {
        if (got.equals(want)) {
            passed++;
        } else {
            failed++;
            System.out.println("README.md: " + what + " is " + got + ", due is " + want);
        }
    }

    public static void main(String[] args) throws Exception {
        String text = Files.readString(Path.of("README.md"));
        shownCallsAnswerSo(text);
        everyCallIsNamed(text);
        System.out.println(passed + " passed, " + failed + " failed");
        if (failed != 0) System.exit(1);
    }

    private static void shownCallsAnswerSo(String text) throws Exception {
        int from = text.indexOf("```java\n");
        int to = text.indexOf("```\n", from + 8);
        due("where the shown calls are", from >= 0 && to > from, true);
        GaveTheDayBefore x = new GaveTheDayBefore();
        int shown = 0;
        for (String line : text.substring(Math.max(from, 0) + 8, Math.max(to, from + 8)).split("\n")) {
            if (line.startsWith("x.")) shown++;
            Matcher letters = LETTERS.matcher(line);
            if (letters.find()) for (char c : letters.group(1).toCharArray()) x.feed(c);
            Matcher call = SHOWN.matcher(line);
            if (call.matches()) due(line, answer(x, call.group(1), call.group(2)), Integer.valueOf(call.group(3)));
        }
        due("how many calls are shown with their answers", passed + failed - 1, shown);
        due("whether some are", shown > 0, true);
    }

    private static Object answer(GaveTheDayBefore x, String name, String numbers) throws Exception {
        Object[] values = numbers.isBlank() ? new Object[0] : Arrays.stream(numbers.split(",")).map(s -> Integer.valueOf(s.trim())).toArray();
        Class<?>[] types = new Class<?>[values.length];
        Arrays.fill(types, int.class);
        return GaveTheDayBefore.class.getMethod(name, types).invoke(x, values);
    }

    private static void everyCallIsNamed(String text) {
        Set<String> named = new TreeSet<>();
        for (Matcher m = NAMED.matcher(text); m.find();) {
            named.add(m.group(1) + "/" + (m.group(2).isEmpty() ? 0 : m.group(2).split(",").length));
        }
        Set<String> face = new TreeSet<>();
        for (Method m : GaveTheDayBefore.class.getDeclaredMethods()) {
            if (Modifier.isPublic(m.getModifiers())) face.add(m.getName() + "/" + m.getParameterCount());
        }
        due("what the table names", named, face);
    }
}
