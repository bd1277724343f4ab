import java.io.IOException;
import java.lang.reflect.Method;
import java.lang.reflect.Modifier;
import java.nio.file.Files;
import java.nio.file.Path;
import java.util.HashSet;
import java.util.Set;
import java.util.regex.Matcher;
import java.util.regex.Pattern;

/** Runs the calls that README.md shows, in their order: each answers what stands behind it. */
public final class ReadmeTest {
    private static final Pattern NEW = Pattern.compile("DeedNames x = new DeedNames\\(\\);");
    private static final Pattern WRITE = Pattern.compile("write\\(x, \"([^\"]*)\"\\);");
    private static final Pattern CALL = Pattern.compile("x\\.(\\w+)\\(([^)]*)\\);\\s*// (-?\\w+)\\b.*");
    private final Set<String> shown = new HashSet<>();
    private DeedNames x = null;

    public static void main(String[] args) throws IOException, ReflectiveOperationException {
        ReadmeTest test = new ReadmeTest();
        for (String line : Files.readAllLines(Path.of("README.md"))) {
            test.line(line);
        }
        for (Method m : DeedNames.class.getDeclaredMethods()) {
            boolean known = !Modifier.isPublic(m.getModifiers()) || test.shown.contains(m.getName());
            Check.due("README.md shows " + m.getName(), known ? 1 : 0, 1);
        }
        Check.end();
    }

    private void line(String line) throws ReflectiveOperationException {
        Matcher write = WRITE.matcher(line);
        Matcher call = CALL.matcher(line);
        if (NEW.matcher(line).matches()) {
            x = new DeedNames();
        } else if (write.matches()) {
            Check.write(x, write.group(1));
        } else if (call.matches()) {
            shown.add(call.group(1));
            Check.due(line, answer(call.group(1), call.group(2)), due(call.group(3)));
        } else {
            Check.due("a call without its answer: " + line, line.startsWith("x.") ? 1 : 0, 0);
        }
    }

    private long answer(String name, String numbers) throws ReflectiveOperationException {
        for (Method m : DeedNames.class.getMethods()) {
            if (m.getName().equals(name) && m.getDeclaringClass() == DeedNames.class) {
                return ((Number) m.invoke(x, arguments(m.getParameterTypes(), numbers))).longValue();
            }
        }
        throw new NoSuchMethodException(name);
    }

    private static Object[] arguments(Class<?>[] types, String numbers) {
        Object[] arguments = new Object[types.length];
        String[] parts = numbers.split(", ");
        for (int k = 0; k < types.length; k++) {
            long number = Long.decode(parts[k].replace("L", ""));
            if (types[k] == long.class) {
                arguments[k] = number;
            } else {
                arguments[k] = (int) number;
            }
        }
        return arguments;
    }

    private static long due(String answer) {
        return switch (answer) {
            case "BAD" -> Check.BAD;
            case "NO" -> Check.NO;
            case "FULL" -> Check.FULL;
            case "NONE" -> Check.NONE;
            default -> Long.parseLong(answer);
        };
    }
}
