import java.lang.reflect.Method;
import java.nio.file.Files;
import java.nio.file.Path;
import java.util.Set;
import java.util.TreeSet;
import java.util.regex.Matcher;
import java.util.regex.Pattern;

/** The rows of README.md: each call answers what stands behind it there, and the page names every call. */
public final class ReadmeTest {
    private static final Due due = new Due();
    private static final Pattern ROW = Pattern.compile("x\\.(\\w+)\\(([-\\w, ]*)\\);\\s*// (-?\\d+): .*");

    public static void main(String[] args) throws Exception {
        String page = Files.readString(Path.of("README.md"));
        rows(page);
        names(page);
        due.end();
    }

    private static void rows(String page) throws Exception {
        PocketBorders x = new PocketBorders();
        int rows = 0;
        for (String line : page.split("\n")) {
            if (!line.startsWith("x.")) {
                continue;
            }
            Matcher row = ROW.matcher(line);
            due.is("a row can be read: " + line, row.matches() ? 1 : 0, 1);
            if (row.matches()) {
                due.is(line, answer(x, row.group(1), row.group(2)), Long.parseLong(row.group(3)));
                rows++;
            }
        }
        due.is("there are rows", rows > 0 ? 1 : 0, 1);
    }

    private static long answer(PocketBorders x, String name, String arguments) throws Exception {
        String[] told = arguments.isEmpty() ? new String[0] : arguments.split(", *");
        Method method = methodNamed(name);
        Object[] boxed = new Object[told.length];
        for (int k = 0; k < told.length; k++) {
            boolean isLong = method.getParameterTypes()[k] == long.class;
            boxed[k] = isLong ? (Object) Long.decode(told[k]) : (Object) Integer.decode(told[k]);
        }
        return ((Number) method.invoke(x, boxed)).longValue();
    }

    private static Method methodNamed(String name) {
        for (Method method : PocketBorders.class.getMethods()) {
            if (method.getName().equals(name)) {
                return method;
            }
        }
        throw new IllegalArgumentException("no such call: " + name);
    }

    private static void names(String page) {
        Set<String> unnamed = new TreeSet<>();
        for (Method method : PocketBorders.class.getMethods()) {
            boolean isOwn = method.getDeclaringClass() == PocketBorders.class;
            if (isOwn && !page.contains("`" + method.getName() + "`")) {
                unnamed.add(method.getName());
            }
        }
        due.same("calls that the page doesn't name", unnamed.toString(), "[]");
    }
}
