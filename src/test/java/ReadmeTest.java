import java.io.IOException;
import java.lang.reflect.Method;
import java.lang.reflect.Modifier;
import java.nio.file.Files;
import java.nio.file.Path;
import java.util.List;
import java.util.regex.Matcher;
import java.util.regex.Pattern;
import java.util.stream.Stream;

/** What README.md shows of the class and of its tests is so; run in the project's folder. */
public final class ReadmeTest {
    private static final Path TESTS = Path.of("src/test/java");
    private static final Pattern SHOWN =
        Pattern.compile("^x\\.(\\w+)\\(([^)]*)\\); *// (?:(\\S+): )?.*$", Pattern.MULTILINE);
    private static final Pattern JAVA = Pattern.compile("(?s)```java\n(.*?)```");

    public static void main(String[] args) throws Exception {
        String readme = Files.readString(Path.of("README.md"));
        List<String> shown = JAVA.matcher(readme).results().map(part -> part.group(1)).toList();
        Checks.due("README.md's parts in Java", shown.size(), 2);
        callsAnswerAsShown(shown.get(0));
        helpersAreThese(shown.get(1));
        helpersWork();
        everyCallIsTold(readme);
        everyTestIsTold(readme);
        Checks.due(".ci/run can be run", Files.isExecutable(Path.of(".ci/run")), true);
        Checks.finish();
    }

    private static void callsAnswerAsShown(String example) throws ReflectiveOperationException {
        ObjectTexts x = new ObjectTexts();
        Matcher call = SHOWN.matcher(example);
        int calls = 0;
        while (call.find()) {
            calls++;
            Method method = methodOf(call.group(1));
            Object got = method.invoke(x, argumentsOf(method, call.group(2)));
            String want = call.group(3) == null ? "null" : call.group(3);
            Checks.due("README.md's " + call.group(), String.valueOf(got), want);
        }
        Checks.due("lines without a new object", example.lines().count() - 1, calls);
    }

    private static Method methodOf(String name) {
        return face().filter(method -> method.getName().equals(name)).findFirst().orElseThrow();
    }

    private static Stream<Method> face() {
        return Stream.of(ObjectTexts.class.getDeclaredMethods())
            .filter(method -> Modifier.isPublic(method.getModifiers()));
    }

    private static Object[] argumentsOf(Method method, String written) {
        String[] parts = written.split(", ");
        Object[] arguments = new Object[parts.length];
        for (int k = 0; k < parts.length; k++) {
            long argument = Long.decode(parts[k]);
            if (method.getParameterTypes()[k] == long.class) {
                arguments[k] = argument;
            } else {
                arguments[k] = (int) argument;
            }
        }
        return arguments;
    }

    private static void helpersAreThese(String helpers) throws IOException {
        String mine = Files.readString(TESTS.resolve("ReadmeTest.java"));
        boolean stands = mine.replaceAll("\\s+", " ").contains(helpers.replaceAll("\\s+", " ").trim());
        Checks.due("README.md's helpers stand here", stands, true);
    }

    private static void helpersWork() {
        ObjectTexts x = new ObjectTexts();
        String longer = "(one two three '(four . 5) six)";
        Checks.due("readText of " + longer, readText(x, longer, 4), 0);
        Checks.due("told", told(x, 4), longer);
        Checks.due("readText of 20", readText(x, "(aaaaaaaa bbbbbbbbb)", 5), 0);
        Checks.due("told of 20", told(x, 5), "(aaaaaaaa bbbbbbbbb)");
        Checks.due("readText of nothing", readText(x, "", 5), 3);
        Checks.due("told of no PLACE", told(x, 8), "");
    }

    static int readText(ObjectTexts x, String text, int p) {
        for (int from = 0; from < text.length(); from += 20) {
            int[] words = new int[5];
            int n = Math.min(20, text.length() - from);
            for (int k = 0; k < n; k++) {
                words[k / 4] |= (text.charAt(from + k) & 255) << (24 - 8 * (k % 4));
            }
            x.feed(words[0], words[1], words[2], words[3], words[4]);
            x.end(n);
        }
        return x.read(p);
    }

    static String told(ObjectTexts x, int p) {
        StringBuilder told = new StringBuilder();
        int length = x.tell(p);
        for (int k = 0; k < length; k++) {
            told.append((char) x.letter(k));
        }
        return told.toString();
    }

    private static void everyCallIsTold(String readme) {
        face().forEach(method -> {
            Pattern row = Pattern.compile("(?m)^\\| `" + method.getName() + "\\(([^)]*)\\)` \\|");
            Matcher told = row.matcher(readme);
            boolean stands = told.find();
            Checks.due("README.md has a row for " + method.getName(), stands, true);
            Checks.due("the arguments there of " + method.getName(),
                stands ? told.group(1).split(", ").length : 0, method.getParameterCount());
        });
    }

    private static void everyTestIsTold(String readme) throws IOException {
        try (Stream<Path> files = Files.list(TESTS)) {
            for (Path file : files.sorted().toList()) {
                String name = file.getFileName().toString().replace(".java", "");
                Checks.due("README.md tells of " + name, readme.contains("`" + name + "`"), true);
            }
        }
    }
}
