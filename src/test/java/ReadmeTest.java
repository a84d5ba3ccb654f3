import java.io.IOException;
import java.lang.reflect.Method;
import java.lang.reflect.Modifier;
import java.nio.file.Files;
import java.nio.file.Path;
import java.util.Arrays;
import java.util.List;
import java.util.regex.Matcher;
import java.util.regex.Pattern;
import java.util.stream.Collectors;
import java.util.stream.Stream;

/** README.md tells what is so: its examples answer as it says, and no call, finding or test is left out. */
public final class ReadmeTest {
    private static final Path PAGE = Path.of("README.md");
    private static final Path TESTS = Path.of("src/test/java");
    private static final String FRESH = "MaskBows x = new MaskBows();";
    private static final Pattern CALL = Pattern.compile("x\\.(\\w+)\\(([^()]*)\\);\\s*// (-?\\d+)(?:: .*)?");
    private static final String[] FINDINGS = {"BEYOND", "FULL", "KIND", "NONE", "STATE", "MISSING", "SIZE"};

    public static void main(String[] args) throws IOException, ReflectiveOperationException {
        String page = Files.readString(PAGE);
        examples(page);
        calls(page);
        findings(page);
        tests(page);
        Due.end("ReadmeTest");
    }

    private static void examples(String page) throws ReflectiveOperationException {
        int examples = 0;
        for (Matcher block = Pattern.compile("(?s)```java\n(.*?)```").matcher(page); block.find(); examples++) {
            List<String> lines = block.group(1).lines().collect(Collectors.toList());
            Due.holds("an example begins with a new object: " + lines.get(0), lines.get(0).equals(FRESH));
            example(lines.subList(1, lines.size()));
        }
        Due.is("how many examples", 3, examples);
    }

    private static void example(List<String> lines) throws ReflectiveOperationException {
        MaskBows x = new MaskBows();
        for (String line : lines) {
            Matcher call = CALL.matcher(line);
            boolean isCall = call.matches();
            Due.holds("a call and its answer: " + line, isCall);
            if (isCall) {
                Due.is(line, Long.parseLong(call.group(3)), answer(x, call.group(1), call.group(2)));
            }
        }
    }

    private static long answer(MaskBows x, String name, String told) throws ReflectiveOperationException {
        String[] words = told.isEmpty() ? new String[0] : told.split(", ");
        Method method = methodOf(name);
        Class<?>[] types = method.getParameterTypes();
        Object[] arguments = new Object[types.length];
        for (int i = 0; i < types.length; i++) {
            arguments[i] = types[i] == boolean.class ? (Object) Boolean.valueOf(words[i])
                : types[i] == long.class ? (Object) Long.decode(words[i]) : (Object) Integer.decode(words[i]);
        }
        return ((Number) method.invoke(x, arguments)).longValue();
    }

    private static Method methodOf(String name) {
        return Arrays.stream(MaskBows.class.getDeclaredMethods())
            .filter(method -> Modifier.isPublic(method.getModifiers()) && method.getName().equals(name))
            .findFirst().orElseThrow();
    }

    /** A row of a table for each call, with as many arguments as it has. */
    private static void calls(String page) {
        for (Method method : MaskBows.class.getDeclaredMethods()) {
            if (Modifier.isPublic(method.getModifiers())) {
                Matcher row = Pattern.compile("(?m)^\\| `" + method.getName() + "\\(([a-z, ]*)\\)` \\| .+ \\|$").matcher(page);
                boolean isTold = row.find();
                Due.holds("a row for " + method.getName(), isTold);
                int told = !isTold || row.group(1).isEmpty() ? 0 : row.group(1).split(", ").length;
                Due.is("arguments told of " + method.getName(), method.getParameterCount(), told);
            }
        }
    }

    private static void findings(String page) {
        for (int i = 0; i < FINDINGS.length; i++) {
            String row = "| " + (Due.BEYOND - i) + " | " + FINDINGS[i] + " | " + i + " | ";
            Due.holds("a row of findings: " + row, page.contains(row));
        }
    }

    private static void tests(String page) throws IOException {
        try (Stream<Path> files = Files.list(TESTS)) {
            files.map(file -> file.getFileName().toString().replace(".java", ""))
                .forEach(name -> Due.holds("a word of " + name, Pattern.compile("\\b" + name + "\\b").matcher(page).find()));
        }
    }
}
