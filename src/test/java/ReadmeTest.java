import java.io.IOException;
import java.lang.reflect.InvocationTargetException;
import java.lang.reflect.Method;
import java.nio.file.Files;
import java.nio.file.Path;
import java.util.List;
import java.util.regex.Matcher;
import java.util.regex.Pattern;

/** The run of calls in README.md, line by line: each is answered as it stands there. */
public final class ReadmeTest {
    private static final String NEW_OBJECT = "WideningArray array = new WideningArray();";
    private static final Pattern CALL =
            Pattern.compile("array\\.(\\w+)\\(([^)]*)\\); +// (throws \\w+|-?\\w+)(: .*)?");
    private static final Pattern LOOP =
            Pattern.compile("while \\(array\\.(\\w+)\\(\\) != (-?\\d+)\\) \\{ \\} +// (-?\\d+)(: .*)?");
    private static final int MOST_CALLS = 512;

    private final Check check = new Check("ReadmeTest");
    private WideningArray array;
    private int calls;

    public static void main(String[] args) throws IOException {
        ReadmeTest test = new ReadmeTest();
        test.readRun(Files.readAllLines(Path.of("README.md")));
        test.check.end();
    }

    private void readRun(List<String> lines) {
        boolean inRun = false;
        for (String line : lines) {
            if (line.startsWith("```")) {
                inRun = line.equals("```java");
            } else if (inRun && !line.isBlank()) {
                readLine(line);
            }
        }
        check.same("README.md has a run of calls", "true", "" + (calls > 0));
        check.same("its calls are at most " + MOST_CALLS, "true", "" + (calls <= MOST_CALLS));
    }

    private void readLine(String line) {
        Matcher call = CALL.matcher(line);
        Matcher loop = LOOP.matcher(line);
        if (line.equals(NEW_OBJECT)) {
            array = new WideningArray();
        } else if (call.matches()) {
            check.same(line, call.group(3), answer(call.group(1), call.group(2)));
        } else if (loop.matches()) {
            check.same(line, loop.group(3), lastAnswer(loop.group(1), loop.group(2)));
        } else {
            check.same(line, "a call with its answer", "something else");
        }
    }

    private String lastAnswer(String name, String end) {
        String last = answer(name, "");
        while (!last.equals(end) && calls <= MOST_CALLS) {
            last = answer(name, "");
        }
        return last;
    }

    private String answer(String name, String list) {
        calls++;
        String[] parts = list.isEmpty() ? new String[0] : list.split(", ");
        Object[] arguments = new Object[parts.length];
        Class<?>[] types = new Class<?>[parts.length];
        for (int k = 0; k < parts.length; k++) {
            arguments[k] = Integer.valueOf(parts[k]);
            types[k] = int.class;
        }
        try {
            Method called = WideningArray.class.getMethod(name, types);
            Object got = called.invoke(array, arguments);
            return called.getReturnType() == void.class ? "nothing" : String.valueOf(got);
        } catch (InvocationTargetException e) {
            return "throws " + e.getCause().getClass().getSimpleName();
        } catch (ReflectiveOperationException e) {
            return "no such call";
        }
    }
}
