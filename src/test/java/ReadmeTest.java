import java.io.IOException;
import java.lang.reflect.InvocationTargetException;
import java.lang.reflect.Method;
import java.lang.reflect.Modifier;
import java.nio.file.DirectoryStream;
import java.nio.file.Files;
import java.nio.file.Path;
import java.util.ArrayList;
import java.util.HashSet;
import java.util.List;
import java.util.Set;
import java.util.regex.Matcher;
import java.util.regex.Pattern;

/** README.md: its calls answer what it says, and it tells of every call and of every test. */
public final class ReadmeTest {
    private static final Due DUE = new Due();
    private static final String NEW_LOOM = "ReelLoom loom = new ReelLoom();";
    private static final Pattern CALL =
            Pattern.compile("loom\\.(\\w+)\\(([^)]*)\\); +// (-?\\d+|throws \\w+)(:.*)?");

    public static void main(String[] args) throws IOException, IllegalAccessException {
        String readme = Files.readString(Path.of("README.md"));
        Set<String> called = examples(readme);
        tellsOfEveryCall(readme, called);
        tellsOfEveryTest(readme);
        DUE.end("ReadmeTest");
    }

    /** The names of the calls that the examples make. */
    private static Set<String> examples(String readme) throws IllegalAccessException {
        Set<String> called = new HashSet<>();
        for (String block : javaBlocks(readme)) {
            ReelLoom loom = null;
            int calls = 0;
            for (String line : block.lines().toList()) {
                Matcher call = CALL.matcher(line);
                if (line.equals(NEW_LOOM)) {
                    loom = new ReelLoom();
                    calls = 0;
                } else if (loom != null && call.matches()) {
                    called.add(call.group(1));
                    calls++;
                    DUE.compare(line, call.group(3), outcome(loom, call.group(1), call.group(2).split(", ")));
                } else {
                    DUE.compare("README.md", "a call of a loom and its answer", line);
                }
                DUE.compare("calls of one loom are at most 512", "true", "" + (calls <= 512));
            }
        }
        return called;
    }

    private static List<String> javaBlocks(String readme) {
        List<String> blocks = new ArrayList<>();
        Matcher block = Pattern.compile("```java\n(.*?)```", Pattern.DOTALL).matcher(readme);
        while (block.find()) {
            blocks.add(block.group(1));
        }
        return blocks;
    }

    private static String outcome(ReelLoom loom, String name, String[] words) throws IllegalAccessException {
        for (Method method : ReelLoom.class.getDeclaredMethods()) {
            if (method.getName().equals(name) && method.getParameterCount() == words.length) {
                return outcome(loom, method, words);
            }
        }
        return "no such call";
    }

    private static String outcome(ReelLoom loom, Method method, String[] words) throws IllegalAccessException {
        Object[] arguments = new Object[words.length];
        for (int k = 0; k < words.length; k++) {
            boolean truth = method.getParameterTypes()[k] == boolean.class;
            arguments[k] = truth ? (Object) Boolean.valueOf(words[k]) : (Object) Integer.valueOf(words[k]);
        }
        try {
            return method.invoke(loom, arguments).toString();
        } catch (InvocationTargetException thrown) {
            return "throws " + thrown.getCause().getClass().getSimpleName();
        }
    }

    private static void tellsOfEveryCall(String readme, Set<String> called) {
        for (Method method : ReelLoom.class.getDeclaredMethods()) {
            if (Modifier.isPublic(method.getModifiers())) {
                String name = method.getName();
                DUE.compare("an example calls " + name, "true", "" + called.contains(name));
                DUE.compare("the table has " + name, "true", "" + readme.contains("| `" + name + "("));
            }
        }
    }

    private static void tellsOfEveryTest(String readme) throws IOException {
        DUE.compare("it says how the tests are run", "true", "" + readme.contains("\n    .ci/run\n"));
        try (DirectoryStream<Path> files = Files.newDirectoryStream(Path.of("src/test/java"), "*.java")) {
            for (Path file : files) {
                String name = file.getFileName().toString();
                DUE.compare("it tells of " + name, "true", "" + readme.contains("`" + name + "`"));
            }
        }
    }

    private ReadmeTest() {
    }
}
