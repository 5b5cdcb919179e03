import java.io.File;
import java.io.IOException;
import java.lang.reflect.Method;
import java.lang.reflect.Modifier;
import java.nio.file.Files;
import java.nio.file.Path;
import java.util.Arrays;
import java.util.Set;
import java.util.TreeSet;
import java.util.regex.MatchResult;
import java.util.regex.Matcher;
import java.util.regex.Pattern;
import java.util.stream.Collectors;

/** What README.md says is so: its calls answer what stands behind them, and it names every call and every test. */
public final class ReadmeTest {
    private static final Pattern CALL = Pattern.compile("x\\.(\\w+)\\(([^)]*)\\);\\s+// (-?\\d+)\\b.*");

    public static void main(String[] args) throws IOException, ReflectiveOperationException {
        String text = Files.readString(Path.of("README.md"));
        example(text);
        callsNamed(text);
        testsNamed(text);
        Check.end();
    }

    private static void example(String text) throws ReflectiveOperationException {
        String code = text.substring(text.indexOf("```java\n") + 8);
        String[] lines = code.substring(0, code.indexOf("```")).split("\n");
        Check.holds("the object: " + lines[0], lines[0].equals("PageRounds x = new PageRounds();"));
        PageRounds x = new PageRounds();
        for (int i = 1; i < lines.length; i++) {
            Matcher call = CALL.matcher(lines[i]);
            boolean isCall = call.matches();
            Check.holds("a call and its answer: " + lines[i], isCall);
            if (isCall) {
                Check.due(lines[i], answer(x, call.group(1), call.group(2)), Long.parseLong(call.group(3)));
            }
        }
        Check.holds("there is an example", lines.length > 10);
    }

    private static long answer(PageRounds x, String name, String written) throws ReflectiveOperationException {
        Method method = Arrays.stream(PageRounds.class.getMethods()).filter(m -> m.getName().equals(name)).findFirst().orElseThrow();
        String[] each = written.split(", ");
        Object[] arguments = new Object[each.length];
        for (int i = 0; i < each.length; i++) {
            long v = Long.decode(each[i].replace("L", ""));
            boolean isLong = method.getParameterTypes()[i] == long.class;
            Check.holds(name + ", argument " + i + " is written as its type", isLong == each[i].endsWith("L"));
            if (isLong) {
                arguments[i] = v;
            } else {
                arguments[i] = (int) v;
            }
        }
        return (int) method.invoke(x, arguments);
    }

    private static void callsNamed(String text) {
        String table = text.substring(text.indexOf("| calls |"), text.indexOf("## Tests"));
        Set<String> named = firstColumn(table).stream().flatMap(row -> Arrays.stream(row.split(", "))).collect(Collectors.toCollection(TreeSet::new));
        Set<String> calls = Arrays.stream(PageRounds.class.getDeclaredMethods())
            .filter(m -> Modifier.isPublic(m.getModifiers())).map(Method::getName).collect(Collectors.toCollection(TreeSet::new));
        Check.holds("calls named " + named + " are those that there are " + calls, named.equals(calls));
    }

    private static void testsNamed(String text) {
        Set<String> named = firstColumn(text.substring(text.indexOf("| test |")));
        Set<String> tests = Arrays.stream(new File("src/test/java").list()).filter(name -> name.endsWith("Test.java"))
            .map(name -> name.replace(".java", "")).collect(Collectors.toCollection(TreeSet::new));
        Check.holds("tests named " + named + " are those that there are " + tests, named.equals(tests));
    }

    private static Set<String> firstColumn(String table) {
        return Pattern.compile("(?m)^\\| ([\\w, ]+) \\|").matcher(table).results().map((MatchResult row) -> row.group(1))
            .filter(cell -> !cell.equals("calls") && !cell.equals("test")).collect(Collectors.toCollection(TreeSet::new));
    }
}
