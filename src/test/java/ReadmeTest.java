import java.lang.reflect.Method;
import java.lang.reflect.Modifier;
import java.nio.file.Files;
import java.nio.file.Path;
import java.util.List;
import java.util.regex.Matcher;
import java.util.regex.Pattern;

/** The example of README.md answers as the page says, and the page names every call and every constant. */
public final class ReadmeTest {
    private static final Pattern ASKED = Pattern.compile("x\\.(\\w+)\\(([-0-9, ]*)\\);\\s*// (-?\\d+)\\b.*");
    private static final Pattern WRITTEN = Pattern.compile("for \\(char c : \"(.*)\".toCharArray\\(\\)\\) x.write\\(c\\);");

    private static int wrong = 0;
    private static int lines = 0;

    public static void main(String[] args) throws Exception {
        List<String> page = Files.readAllLines(Path.of("README.md"));
        NewsHampers x = new NewsHampers();
        boolean inside = false;
        for (String line : page) {
            if (line.startsWith("```")) {
                inside = line.equals("```java");
            } else if (inside && !line.isEmpty() && !line.startsWith("NewsHampers x")) {
                runLine(x, line);
            }
        }
        namesAll(String.join("\n", page));
        if (lines < 15) {
            fault("the example has only " + lines + " lines");
        }
        System.out.println(wrong == 0 ? lines + " lines of README.md hold" : wrong + " faults");
        if (wrong != 0) {
            System.exit(1);
        }
    }

    private static void fault(String what) {
        wrong++;
        System.out.println("README.md: " + what);
    }

    private static void runLine(NewsHampers x, String line) throws Exception {
        lines++;
        Matcher written = WRITTEN.matcher(line);
        if (written.matches()) {
            for (char letter : written.group(1).toCharArray()) {
                x.write(letter);
            }
            return;
        }
        Matcher asked = ASKED.matcher(line);
        if (!asked.matches()) {
            fault("no answer is told: " + line);
            return;
        }
        int got = answer(x, asked.group(1), asked.group(2));
        if (got != Integer.parseInt(asked.group(3))) {
            fault(line + " answered " + got);
        }
    }

    private static int answer(NewsHampers x, String name, String numbers) throws Exception {
        String[] parts = numbers.isBlank() ? new String[0] : numbers.split(",");
        Class<?>[] types = new Class<?>[parts.length];
        Object[] values = new Object[parts.length];
        for (int i = 0; i < parts.length; i++) {
            types[i] = int.class;
            values[i] = Integer.parseInt(parts[i].trim());
        }
        return (int) NewsHampers.class.getMethod(name, types).invoke(x, values);
    }

    private static void namesAll(String page) {
        for (Method m : NewsHampers.class.getDeclaredMethods()) {
            if (Modifier.isPublic(m.getModifiers()) && !page.contains("`" + m.getName() + "(")) {
                fault(m.getName() + " is not named");
            }
        }
        String[] constants = {"`BAD` (" + NewsHampers.BAD, "`NO` (" + NewsHampers.NO, "`FULL` (" + NewsHampers.FULL,
            "`NONE` (" + NewsHampers.NONE};
        for (String constant : constants) {
            if (!page.contains(constant + ")")) {
                fault(constant + ") is not named");
            }
        }
    }
}
