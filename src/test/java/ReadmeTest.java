import java.io.IOException;
import java.lang.reflect.Method;
import java.nio.file.Files;
import java.nio.file.Path;
import java.util.Set;
import java.util.TreeSet;
import java.util.regex.Matcher;
import java.util.regex.Pattern;

/** The example of README.md: every line of it answers what its comment says, and it uses every call. */
public final class ReadmeTest {
    private static final Pattern LINE = Pattern.compile("lockers\\.(\\w+)\\(([^)]*)\\);\\s*// (-?\\w+): .*");

    private static Method publicMethod(String name) {
        for (Method each : LockerRows.class.getMethods()) {
            if (each.getName().equals(name)) {
                return each;
            }
        }
        throw new IllegalArgumentException("README.md calls " + name + ", which is not there");
    }

    private static Object[] arguments(Method method, String[] texts) {
        Object[] values = new Object[texts.length];
        for (int n = 0; n < texts.length; n++) {
            boolean isLong = method.getParameterTypes()[n] == long.class;
            values[n] = isLong ? (Object) Long.valueOf(texts[n]) : (Object) Integer.valueOf(texts[n]);
        }
        return values;
    }

    /** An answer is written as a number, or as a constant's name. */
    private static int answer(String text) throws ReflectiveOperationException {
        return text.matches("-?\\d+") ? Integer.parseInt(text) : LockerRows.class.getField(text).getInt(null);
    }

    public static void main(String[] args) throws IOException, ReflectiveOperationException {
        Due due = new Due("ReadmeTest");
        LockerRows lockers = new LockerRows();
        Set<String> used = new TreeSet<>();
        for (String line : Files.readAllLines(Path.of("README.md"))) {
            if (!line.startsWith("lockers.")) {
                continue;
            }
            Matcher parts = LINE.matcher(line);
            if (!parts.matches()) {
                throw new IllegalArgumentException("README.md has a line without an answer: " + line);
            }
            Method method = publicMethod(parts.group(1));
            Object got = method.invoke(lockers, arguments(method, parts.group(2).split(", ")));
            due.is(line, (Integer) got, answer(parts.group(3)));
            used.add(parts.group(1));
        }
        due.is("the example's calls, of 12", used.size(), 12);
        due.end();
    }
}
