import java.io.IOException;
import java.lang.reflect.InvocationTargetException;
import java.lang.reflect.Method;
import java.lang.reflect.Modifier;
import java.nio.file.Files;
import java.nio.file.Path;
import java.util.ArrayList;
import java.util.List;
import java.util.regex.Matcher;
import java.util.regex.Pattern;

/** What README.md tells of the class is so: its example is run, and no call or exception is left out. */
final class ReadmeTest {
    /** A line of the example: tree.call(arguments); // the answer, and perhaps why. */
    private static final Pattern LINE =
        Pattern.compile("tree\\.(\\w+)\\(([^)]*)\\);\\s*// (true|false|-?\\d+)(: .*)?");
    private static final int EXAMPLE_LINES = 20;

    public static void main(String[] args) throws IOException, ReflectiveOperationException {
        List<String> lines = Files.readAllLines(Path.of("README.md"));
        runExample(lines);
        everyCallIsTold(lines);
        Check.end();
    }

    private static void runExample(List<String> lines) throws ReflectiveOperationException {
        PagedTree tree = new PagedTree();
        int run = 0;
        for (String line : lines) {
            Matcher parts = LINE.matcher(line);
            if (parts.matches()) {
                run++;
                String got = answerOf(tree, parts.group(1), parts.group(2));
                Check.dueText("README.md: " + line + ":", got + "\n", parts.group(3) + "\n");
            }
        }
        Check.due("lines of README.md's example", run, EXAMPLE_LINES);
    }

    private static String answerOf(PagedTree tree, String name, String written) throws ReflectiveOperationException {
        List<Object> values = new ArrayList<>();
        for (String text : written.isEmpty() ? new String[0] : written.split(", ")) {
            boolean isNumber = text.matches("-?\\d+");
            values.add(isNumber ? (Object) Integer.valueOf(text) : (Object) Boolean.valueOf(text));
        }
        try {
            return String.valueOf(methodCalled(name).invoke(tree, values.toArray()));
        } catch (InvocationTargetException e) {
            return e.getCause().toString();
        }
    }

    private static Method methodCalled(String name) throws NoSuchMethodException {
        for (Method method : PagedTree.class.getDeclaredMethods()) {
            if (method.getName().equals(name) && Modifier.isPublic(method.getModifiers())) {
                return method;
            }
        }
        throw new NoSuchMethodException(name);
    }

    /** Each method has one row, with its types and with every exception that it throws, and no other. */
    private static void everyCallIsTold(List<String> lines) {
        for (Method method : PagedTree.class.getDeclaredMethods()) {
            if (Modifier.isPublic(method.getModifiers())) {
                Check.dueText("README.md's exceptions of " + method.getName(),
                    exceptionsIn(rowOf(lines, method)), exceptionsOf(method));
            }
        }
    }

    private static String rowOf(List<String> lines, Method method) {
        StringBuilder call = new StringBuilder("\\| `" + method.getReturnType() + " " + method.getName() + "\\(");
        for (int i = 0; i < method.getParameterCount(); i++) {
            call.append(i == 0 ? "" : ", ").append(method.getParameterTypes()[i]).append(" \\w+");
        }
        List<String> rows = new ArrayList<>();
        for (String line : lines) {
            if (line.matches(call + "\\)` \\|.*")) {
                rows.add(line);
            }
        }
        Check.due("README.md's rows of " + method.getName(), rows.size(), 1);
        return rows.isEmpty() ? "" : rows.get(0);
    }

    private static String exceptionsIn(String row) {
        StringBuilder names = new StringBuilder();
        Matcher found = Pattern.compile("`(\\w+Exception)`:").matcher(row);
        while (found.find()) {
            names.append(found.group(1)).append('\n');
        }
        return names.toString();
    }

    private static String exceptionsOf(Method method) {
        StringBuilder names = new StringBuilder();
        for (Class<?> thrown : method.getExceptionTypes()) {
            names.append(thrown.getSimpleName()).append('\n');
        }
        return names.toString();
    }
}
