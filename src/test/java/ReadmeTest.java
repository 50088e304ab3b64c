import java.io.IOException;
import java.lang.reflect.Method;
import java.lang.reflect.Modifier;
import java.nio.file.Files;
import java.nio.file.Path;
import java.util.Set;
import java.util.TreeSet;
import java.util.regex.Matcher;
import java.util.regex.Pattern;

/** README.md tells the truth: its example answers as it says there, and its table has every call. */
public final class ReadmeTest {
    private static final Pattern LINE = Pattern.compile(
        "^plan\\.(\\w+)\\(([^)]*)\\); *// (-?\\d+): .*$", Pattern.MULTILINE);
    private static final Pattern ROW = Pattern.compile("^\\| `(\\w+)\\(([^)]*)\\)` \\|",
        Pattern.MULTILINE);

    public static void main(String[] args) throws IOException, ReflectiveOperationException {
        String readme = Files.readString(Path.of("README.md"));
        example(readme);
        table(readme);
        Check.due("the command that runs the tests", readme.contains("\n    .ci/run\n"));
        Check.end("ReadmeTest");
    }

    private static void example(String readme) throws ReflectiveOperationException {
        LiveChanges plan = new LiveChanges();
        Matcher line = LINE.matcher(readme);
        int lines = 0;
        while (line.find()) {
            lines++;
            Check.due("README: " + line.group(), answer(plan, line.group(1), line.group(2)),
                Integer.parseInt(line.group(3)));
        }
        long told = readme.lines().filter(text -> text.startsWith("plan.")).count();
        Check.due("lines of the example that have an answer", lines, told);
        Check.due("there is an example", lines > 0);
    }

    private static int answer(LiveChanges plan, String name, String given)
        throws ReflectiveOperationException {
        Method call = methodOf(name);
        String[] texts = given.split(", ");
        Object[] values = new Object[texts.length];
        for (int i = 0; i < texts.length; i++) {
            boolean isTruth = call.getParameterTypes()[i] == boolean.class;
            values[i] = isTruth ? (Object) Boolean.valueOf(texts[i]) : Integer.valueOf(texts[i]);
        }
        return (int) call.invoke(plan, values);
    }

    private static Method methodOf(String name) {
        for (Method m : LiveChanges.class.getDeclaredMethods()) {
            if (Modifier.isPublic(m.getModifiers()) && m.getName().equals(name)) {
                return m;
            }
        }
        throw new IllegalStateException("README names a call that is not there: " + name);
    }

    private static void table(String readme) {
        Set<String> calls = new TreeSet<>();
        for (Method m : LiveChanges.class.getDeclaredMethods()) {
            if (Modifier.isPublic(m.getModifiers())) {
                calls.add(m.getName() + " of " + m.getParameterCount());
            }
        }
        Set<String> told = new TreeSet<>();
        Matcher row = ROW.matcher(readme);
        while (row.find()) {
            told.add(row.group(1) + " of " + row.group(2).split(", ").length);
        }
        Check.due("the table has " + told + " of " + calls, told.equals(calls));
    }
}
