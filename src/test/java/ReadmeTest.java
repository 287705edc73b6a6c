import java.io.IOException;
import java.lang.reflect.Method;
import java.lang.reflect.Modifier;
import java.nio.file.Files;
import java.nio.file.Path;
import java.util.TreeSet;
import java.util.regex.Matcher;
import java.util.regex.Pattern;

/** README.md: the answers of its example, and that its table has every call with as many arguments as the class. */
public final class ReadmeTest {
    private static final Check CHECK = new Check();
    private static final Pattern TYPED = Pattern.compile("for \\(char c : \"(.*)\"\\.toCharArray\\(\\)\\) bench\\.type\\(c\\);");
    private static final Pattern CALL = Pattern.compile("bench\\.(\\w+)\\(([-\\d, ]*)\\); +// (-?\\d+)(:? .*)?");
    private static final Pattern ROW = Pattern.compile("\\| `(\\w+)\\(([\\w, ]*)\\)` (\\* )?\\|.*");

    private static final String ACTS = "[copy, read, setMeter, setSwing, spread]";

    public static void main(String[] args) throws IOException, ReflectiveOperationException {
        String readme = Files.readString(Path.of("README.md"));
        example(readme);
        table(readme);
        CHECK.end();
    }

    private static void example(String readme) throws ReflectiveOperationException {
        int begin = readme.indexOf("```java\n");
        int end = readme.indexOf("```\n", begin + 8);
        CHECK.due("README.md has an example", begin >= 0 && end > begin ? 1 : 0, 1);
        String[] lines = begin >= 0 && end > begin ? readme.substring(begin + 8, end).split("\n") : new String[0];
        RhythmBench bench = new RhythmBench();
        for (String line : lines) {
            Matcher typed = TYPED.matcher(line);
            Matcher call = CALL.matcher(line);
            if (typed.matches()) {
                Check.type(bench, typed.group(1));
            } else if (call.matches()) {
                CHECK.due("README.md: " + line, answer(bench, call.group(1), call.group(2)), Long.parseLong(call.group(3)));
            } else {
                CHECK.dueText("README.md", line, "RhythmBench bench = new RhythmBench();");
            }
        }
    }

    private static long answer(RhythmBench bench, String name, String arguments) throws ReflectiveOperationException {
        String[] words = arguments.isEmpty() ? new String[0] : arguments.split(", ");
        Object[] numbers = new Object[words.length];
        Class<?>[] types = new Class<?>[words.length];
        for (int k = 0; k < words.length; k++) {
            numbers[k] = Integer.valueOf(words[k]);
            types[k] = int.class;
        }
        return ((Number) RhythmBench.class.getMethod(name, types).invoke(bench, numbers)).longValue();
    }

    private static void table(String readme) {
        TreeSet<String> told = new TreeSet<>();
        TreeSet<String> acts = new TreeSet<>();
        for (String line : readme.split("\n")) {
            Matcher row = ROW.matcher(line);
            if (row.matches()) {
                told.add(row.group(1) + " " + (row.group(2).isEmpty() ? 0 : row.group(2).split(", ").length));
                if (row.group(3) != null) {
                    acts.add(row.group(1));
                }
            }
        }
        TreeSet<String> there = new TreeSet<>();
        for (Method method : RhythmBench.class.getDeclaredMethods()) {
            if (Modifier.isPublic(method.getModifiers())) {
                there.add(method.getName() + " " + method.getParameterCount());
            }
        }
        CHECK.dueText("README.md's calls", told.toString(), there.toString());
        CHECK.dueText("README.md's acts", acts.toString(), ACTS);
    }
}
