import java.io.IOException;
import java.lang.reflect.Method;
import java.nio.file.Files;
import java.nio.file.Path;
import java.util.regex.Matcher;
import java.util.regex.Pattern;

/** The example of README.md: each call answers what stands behind its arrow; run from the project's folder. */
public final class ReadmeTest {
    private static final Pattern CALL = Pattern.compile("lab\\.(\\w+)\\(([^()]*)\\);(?: +// (?:-> (-?\\w+))?.*)?");
    private static final int ANSWERS_AT_LEAST = 10;

    public static void main(String[] args) throws IOException, ReflectiveOperationException {
        EndingsLab lab = new EndingsLab();
        int answers = 0;
        for (String line : example().split("\n")) {
            if (line.startsWith("lab.")) {
                answers += ask(lab, line) ? 1 : 0;
            }
        }
        Bench.due("the example has answers", answers >= ANSWERS_AT_LEAST);
        Bench.finish("ReadmeTest");
    }

    /** Does the call of a line; whether the line tells its answer. */
    private static boolean ask(EndingsLab lab, String line) throws ReflectiveOperationException {
        Matcher call = CALL.matcher(line);
        if (!call.matches()) {
            throw new IllegalArgumentException("no call: " + line);
        }
        int got = answer(lab, call.group(1), call.group(2));
        if (call.group(3) == null) {
            Bench.due("taken: " + line, got > 0);
            return false;
        }
        Bench.due(line, got, number(call.group(3)));
        return true;
    }

    private static String example() throws IOException {
        String readme = Files.readString(Path.of("README.md"));
        int start = readme.indexOf("```java\n");
        return readme.substring(start, readme.indexOf("\n```\n", start));
    }

    private static int answer(EndingsLab lab, String name, String written) throws ReflectiveOperationException {
        String[] words = written.isEmpty() ? new String[0] : written.split(", ");
        Object[] values = new Object[words.length];
        for (int i = 0; i < words.length; i++) {
            boolean isNumber = words[i].matches("-?[0-9]+");
            values[i] = isNumber ? (Object) Integer.valueOf(words[i]) : (Object) Boolean.valueOf(words[i]);
        }
        for (Method method : EndingsLab.class.getMethods()) {
            if (method.getName().equals(name) && method.getParameterCount() == values.length) {
                return (Integer) method.invoke(lab, values);
            }
        }
        throw new IllegalArgumentException("no method: " + name);
    }

    private static int number(String written) throws ReflectiveOperationException {
        return written.matches("-?[0-9]+") ? Integer.parseInt(written) : EndingsLab.class.getField(written).getInt(null);
    }
}
