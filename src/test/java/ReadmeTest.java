import java.io.IOException;
import java.lang.reflect.Method;
import java.lang.reflect.Modifier;
import java.nio.file.Files;
import java.nio.file.Path;
import java.util.Arrays;
import java.util.HashMap;
import java.util.List;
import java.util.Map;
import java.util.regex.Matcher;
import java.util.regex.Pattern;

/** README.md's example is run line by line, so that what it says of the answers stays true. */
public final class ReadmeTest {
    private static final Check CHECK = new Check("ReadmeTest");
    private static final Pattern CALL =
            Pattern.compile("(?:int (\\w+) = )?bench\\.(\\w+)\\(([^)]*)\\);\\s+// (-?\\d+)(?::.*)?");
    private static final Pattern SET = Pattern.compile("int (\\w+) = 1 << (\\w+);\\s+// (-?\\d+)(?::.*)?");

    private final WordBench bench = new WordBench();
    private final Map<String, Integer> names = new HashMap<>();

    private int valueOf(String text) {
        return names.containsKey(text) ? names.get(text) : Integer.parseInt(text);
    }

    private int ask(String name, String told) {
        int[] values = Arrays.stream(told.split(", ")).mapToInt(this::valueOf).toArray();
        Class<?>[] types = new Class<?>[values.length];
        Arrays.fill(types, int.class);
        try {
            Method method = WordBench.class.getMethod(name, types);
            return (Integer) method.invoke(bench, Arrays.stream(values).boxed().toArray());
        } catch (ReflectiveOperationException e) {
            throw new IllegalStateException(name + " can't be called so", e);
        }
    }

    private void runLine(String line) {
        Matcher call = CALL.matcher(line);
        Matcher set = SET.matcher(line);
        if (call.matches()) {
            int answer = ask(call.group(2), call.group(3));
            names.put(String.valueOf(call.group(1)), answer);
            CHECK.due(Integer.parseInt(call.group(4)), line, () -> answer);
        } else if (set.matches()) {
            int bits = 1 << valueOf(set.group(2));
            names.put(set.group(1), bits);
            CHECK.due(Integer.parseInt(set.group(3)), line, () -> bits);
        } else {
            CHECK.alike("a line of the example", line, "WordBench bench = new WordBench();");
        }
    }

    private static List<String> exampleOf(String readme) {
        String block = readme.substring(readme.indexOf("```java\n") + 8);
        return block.substring(0, block.indexOf("```")).lines().filter(line -> !line.isBlank()).toList();
    }

    private static void callsAreTold(String readme) {
        for (Method method : WordBench.class.getDeclaredMethods()) {
            if (Modifier.isPublic(method.getModifiers())) {
                boolean told = readme.contains("`" + method.getName() + "(");
                CHECK.alike(method.getName() + " in the table", Boolean.toString(told), "true");
            }
        }
    }

    public static void main(String[] args) throws IOException {
        String readme = Files.readString(Path.of("README.md"));
        ReadmeTest example = new ReadmeTest();
        for (String line : exampleOf(readme)) {
            example.runLine(line);
        }
        callsAreTold(readme);
        CHECK.end();
    }
}
