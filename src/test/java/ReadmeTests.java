import java.lang.reflect.Method;
import java.lang.reflect.Modifier;
import java.nio.file.Files;
import java.nio.file.Path;
import java.util.TreeSet;
import java.util.regex.Matcher;
import java.util.regex.Pattern;

/** The example in README.md: every call of it answers what its comment says first. */
final class ReadmeTests {
    private static final Pattern CALL = Pattern.compile("x\\.(\\w+)\\((.*)\\); +// (-?\\d+): .*");

    static void run(Checks c) throws Exception {
        String readme = Files.readString(Path.of("README.md"));
        CapHouse x = new CapHouse();
        int calls = 0;
        for (String line : readme.split("\n")) {
            Matcher call = CALL.matcher(line);
            if (call.matches()) {
                c.due("README: " + line, answer(x, call.group(1), call.group(2)), Long.parseLong(call.group(3)));
                calls++;
            } else {
                c.holds("README, a call without an answer: " + line, !line.startsWith("x."));
            }
        }
        c.holds("README has an example", calls > 0);
        namesEveryCall(c, readme);
    }

    private static long answer(CapHouse x, String name, String written) throws Exception {
        Method method = methodOf(name);
        String[] parts = written.isEmpty() ? new String[0] : written.split(", ");
        Object[] arguments = new Object[parts.length];
        for (int i = 0; i < parts.length; i++) {
            arguments[i] = argument(parts[i]);
        }
        return ((Number) method.invoke(x, arguments)).longValue();
    }

    private static Method methodOf(String name) {
        for (Method method : CapHouse.class.getMethods()) {
            if (method.getName().equals(name)) {
                return method;
            }
        }
        throw new IllegalArgumentException("no call " + name);
    }

    private static Object argument(String part) {
        if (part.startsWith("'")) {
            return (int) part.charAt(1);
        }
        return part.equals("true") || part.equals("false") ? (Object) Boolean.valueOf(part) : Integer.valueOf(part);
    }

    private static void namesEveryCall(Checks c, String readme) {
        TreeSet<String> unnamed = new TreeSet<>();
        for (Method method : CapHouse.class.getDeclaredMethods()) {
            if (Modifier.isPublic(method.getModifiers()) && !readme.contains("`" + method.getName() + "`")) {
                unnamed.add(method.getName());
            }
        }
        c.holds("README names every call, not " + unnamed, unnamed.isEmpty());
    }
}
