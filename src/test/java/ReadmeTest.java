import java.io.IOException;
import java.lang.reflect.InvocationTargetException;
import java.lang.reflect.Method;
import java.nio.file.Files;
import java.nio.file.Path;
import java.util.List;
import java.util.TreeSet;
import java.util.regex.Matcher;
import java.util.regex.Pattern;

/** What README.md says of the use of the class is so: its example is run line by line, and no call is left out. */
public final class ReadmeTest {
    private static final Pattern CALL = Pattern.compile("loom\\.(\\w+)\\((.*?)\\); +// (.*)");
    private static final Pattern ANSWER = Pattern.compile("(-?\\d+|true|false)\\b.*");
    private static final Checks checks = new Checks("ReadmeTest");

    public static void main(String[] args) throws IOException, IllegalAccessException {
        List<String> lines = Files.readAllLines(Path.of("README.md"));
        TreeSet<String> called = runExample(lines);
        checks.due("calls of the example", called.toString(), names().toString());
        checks.due("calls of the table", namedInTable(lines).toString(), names().toString());
        checks.end();
    }

    private static TreeSet<String> runExample(List<String> lines) throws IllegalAccessException {
        TreeSet<String> called = new TreeSet<>();
        ShaftLoom loom = new ShaftLoom();
        int first = lines.indexOf("ShaftLoom loom = new ShaftLoom();");
        int end = lines.indexOf("```");
        checks.due("there is an example", first >= 0 && first < end, true);
        for (int i = first + 1; i < end; i++) {
            if (!lines.get(i).isEmpty()) {
                called.add(runLine(loom, lines.get(i)));
            }
        }
        return called;
    }

    /** Makes the call of one line, and compares with what its comment begins with: the name of the call. */
    private static String runLine(ShaftLoom loom, String line) throws IllegalAccessException {
        Matcher parts = CALL.matcher(line);
        if (!parts.matches()) {
            checks.due("a line of the example", line, "a call with a comment");
            return line;
        }
        Method method = methodOf(parts.group(1));
        Matcher told = ANSWER.matcher(parts.group(3));
        String want = told.matches() ? told.group(1) : "null";
        checks.due(line, answer(loom, method, parts.group(2)), want);
        return method.getName();
    }

    private static Method methodOf(String name) {
        for (Method method : ShaftLoom.class.getDeclaredMethods()) {
            if (method.getName().equals(name)) {
                return method;
            }
        }
        throw new IllegalArgumentException("no such call: " + name);
    }

    private static String answer(ShaftLoom loom, Method method, String written) throws IllegalAccessException {
        String[] words = written.isEmpty() ? new String[0] : written.split(", ");
        Object[] values = new Object[words.length];
        for (int i = 0; i < words.length; i++) {
            boolean truth = method.getParameterTypes()[i] == boolean.class;
            values[i] = truth ? (Object) Boolean.valueOf(words[i]) : (Object) Integer.valueOf(words[i]);
        }
        try {
            return String.valueOf(method.invoke(loom, values));
        } catch (InvocationTargetException e) {
            return String.valueOf(e.getCause());
        }
    }

    private static TreeSet<String> names() {
        TreeSet<String> names = new TreeSet<>();
        for (Method method : ShaftLoom.class.getMethods()) {
            if (method.getDeclaringClass() == ShaftLoom.class) {
                names.add(method.getName());
            }
        }
        return names;
    }

    /** The table of the calls begins behind the line that heads it, and ends with an empty one. */
    private static TreeSet<String> namedInTable(List<String> lines) {
        TreeSet<String> found = new TreeSet<>();
        int row = lines.indexOf("| to do this | call |") + 2;
        for (; row < lines.size() && !lines.get(row).isEmpty(); row++) {
            Matcher name = Pattern.compile("`(\\w+)`").matcher(lines.get(row));
            while (name.find()) {
                if (!name.group(1).equals("warp")) {
                    found.add(name.group(1));
                }
            }
        }
        return found;
    }
}
