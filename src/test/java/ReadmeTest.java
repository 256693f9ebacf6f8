import java.io.IOException;
import java.lang.reflect.InvocationTargetException;
import java.lang.reflect.Method;
import java.nio.file.Files;
import java.nio.file.Path;
import java.util.List;
import java.util.Set;
import java.util.TreeSet;
import java.util.regex.Matcher;
import java.util.regex.Pattern;
import java.util.stream.Stream;

/** What README.md says: its example answers as it tells, and its table names every test. */
public final class ReadmeTest {
    private static final Path README = Path.of("README.md");
    private static final Pattern CALL = Pattern.compile("tree\\.(\\w+)\\((.*?)\\); +// (throws )?(\\S+): .+");

    public static void main(String[] args) throws IOException, IllegalAccessException {
        theExampleAnswersAsItTells();
        everyTestIsNamed();
        Check.finish();
    }

    private static void theExampleAnswersAsItTells() throws IOException, IllegalAccessException {
        MomentTree tree = new MomentTree();
        Set<String> called = new TreeSet<>();
        for (String line : Files.readAllLines(README)) {
            if (line.startsWith("tree.")) {
                Matcher call = CALL.matcher(line);
                Check.due(line + " is of the form 'call; // answer: why'", call.matches() ? 1 : 0, 1);
                called.add(call.group(1));
                Check.due(line, answer(tree, call.group(1), call.group(2)), told(call));
            }
        }
        for (Method method : MomentTree.class.getMethods()) {
            if (method.getDeclaringClass() == MomentTree.class) {
                Check.due(method.getName() + " is shown", called.contains(method.getName()) ? 1 : 0, 1);
            }
        }
    }

    private static String told(Matcher call) {
        boolean isThrow = call.group(3) != null;
        return isThrow ? call.group(4) : Long.toString(number(call.group(4)));
    }

    private static String answer(MomentTree tree, String name, String written) throws IllegalAccessException {
        List<String> parts = written.isEmpty() ? List.of() : List.of(written.split(", "));
        for (Method method : MomentTree.class.getMethods()) {
            if (method.getName().equals(name) && method.getParameterCount() == parts.size()) {
                Object[] given = parts.stream().map(ReadmeTest::value).toArray();
                try {
                    return method.invoke(tree, given).toString();
                } catch (InvocationTargetException thrown) {
                    return thrown.getCause().getClass().getSimpleName();
                }
            }
        }
        return "no such call";
    }

    private static Object value(String written) {
        if (written.equals("true") || written.equals("false")) {
            return Boolean.valueOf(written);
        }
        return (int) number(written);
    }

    private static long number(String written) {
        return Long.decode(written.replace("L", ""));
    }

    private static void everyTestIsNamed() throws IOException {
        String text = Files.readString(README);
        try (Stream<Path> files = Files.list(Path.of("src/test/java"))) {
            for (Path file : files.toList()) {
                String name = file.getFileName().toString().replace(".java", "");
                Check.due(name + " is named", text.contains("`" + name + "`") ? 1 : 0, 1);
            }
        }
    }
}
