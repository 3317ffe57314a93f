import java.io.IOException;
import java.lang.reflect.InvocationTargetException;
import java.lang.reflect.Method;
import java.lang.reflect.Modifier;
import java.nio.file.Files;
import java.nio.file.Path;
import java.util.HashMap;
import java.util.Map;
import java.util.regex.Matcher;
import java.util.regex.Pattern;

/** README.md tells the truth: each call of its first run answers what it says, and no call of the face is left out. */
public final class ReadmeTest {
    private static final Path README = Path.of("README.md");
    private static final int LEAST_CALLS = 10;

    /** A line such as: int order = desk.order(mould, 0, 30, 25); // 0: a note. */
    private static final Pattern CALL = Pattern.compile(" {4}(?:int (\\w+) = )?desk\\.(\\w+)\\(([^)]*)\\); *// (-?\\d+)(?::.*)?");

    private static final MouldDesk desk = new MouldDesk();
    private static final Map<String, Integer> named = new HashMap<>();
    private static int wrong = 0;

    private static void fault(String text) {
        wrong++;
        System.out.println("README.md: " + text);
    }

    private static Method methodOf(String name) {
        for (Method method : MouldDesk.class.getDeclaredMethods()) {
            if (method.getName().equals(name) && Modifier.isPublic(method.getModifiers())) {
                return method;
            }
        }
        throw new IllegalArgumentException("the face has no " + name);
    }

    private static Object[] argumentsOf(String text) {
        String[] parts = text.isBlank() ? new String[0] : text.split(",");
        Object[] arguments = new Object[parts.length];
        for (int i = 0; i < parts.length; i++) {
            String part = parts[i].strip();
            Integer known = named.get(part);
            arguments[i] = known != null ? known : Integer.valueOf(part);
        }
        return arguments;
    }

    private static void checkCall(Matcher line) throws ReflectiveOperationException {
        Object got;
        try {
            got = methodOf(line.group(2)).invoke(desk, argumentsOf(line.group(3)));
        } catch (InvocationTargetException e) {
            got = e.getCause();
        }
        if (!String.valueOf(got).equals(line.group(4))) {
            fault(line.group().strip() + " answers " + got);
        }
        if (line.group(1) != null) {
            named.put(line.group(1), Integer.valueOf(line.group(4)));
        }
    }

    private static void checkFirstRun() throws IOException, ReflectiveOperationException {
        int calls = 0;
        for (String text : Files.readAllLines(README)) {
            Matcher line = CALL.matcher(text);
            if (line.matches()) {
                calls++;
                checkCall(line);
            } else if (text.contains("desk.")) {
                fault("a call that tells no answer: " + text.strip());
            }
        }
        if (calls < LEAST_CALLS) {
            fault("the first run has " + calls + " calls alone");
        }
    }

    private static void checkNames() throws IOException {
        String whole = Files.readString(README);
        for (Method method : MouldDesk.class.getDeclaredMethods()) {
            if (Modifier.isPublic(method.getModifiers()) && !whole.contains("`" + method.getName() + "`")) {
                fault("does not name " + method.getName());
            }
        }
    }

    public static void main(String[] args) throws IOException, ReflectiveOperationException {
        checkFirstRun();
        checkNames();
        System.out.println(wrong == 0 ? "the readme holds" : wrong + " faults in the readme");
        if (wrong != 0) {
            System.exit(1);
        }
    }
}
