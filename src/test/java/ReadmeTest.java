import java.io.IOException;
import java.lang.reflect.InvocationTargetException;
import java.lang.reflect.Method;
import java.lang.reflect.Modifier;
import java.nio.file.Files;
import java.nio.file.Path;
import java.util.Set;
import java.util.TreeSet;
import java.util.regex.Matcher;
import java.util.regex.Pattern;

/** Makes the calls that README.md shows, one behind the other, each with the answer that it tells. */
public final class ReadmeTest {
    private static final Pattern NEW = Pattern.compile("LockedInByNext x = new LockedInByNext\\(\\);");
    private static final Pattern TOLD = Pattern.compile("tell\\(x, \"([^\"]*)\"\\);  // (-?\\d+)\\b.*");
    private static final Pattern CALL = Pattern.compile("x\\.(\\w+)\\(([-\\d, ]*)\\);  // (-?\\d+)\\b.*");

    private static final Checks C = new Checks();

    private final Set<String> called = new TreeSet<>();
    private LockedInByNext x;

    public static void main(String[] args) throws IOException, ReflectiveOperationException {
        ReadmeTest test = new ReadmeTest();
        boolean code = false;
        for (String line : Files.readAllLines(Path.of("README.md"))) {
            if (line.startsWith("```")) {
                code = line.equals("```java");
            } else if (code) {
                test.make(line);
            }
        }
        test.nothingIsLeftOut();
        C.end("ReadmeTest");
    }

    private void make(String line) throws ReflectiveOperationException {
        Matcher told = TOLD.matcher(line);
        Matcher call = CALL.matcher(line);
        if (NEW.matcher(line).matches()) {
            x = new LockedInByNext();
        } else if (told.matches()) {
            C.due(line, Checks.tell(x, told.group(1)), Integer.parseInt(told.group(2)));
        } else if (call.matches()) {
            called.add(call.group(1));
            C.due(line, answer(call.group(1), call.group(2)), Integer.parseInt(call.group(3)));
        } else if (line.contains("//")) {
            C.due("a line that can't be read, " + line, 0, 1);
        }
    }

    private int answer(String name, String arguments) throws IllegalAccessException, InvocationTargetException {
        String[] parts = arguments.isEmpty() ? new String[0] : arguments.split(", ");
        Object[] numbers = new Object[parts.length];
        for (int i = 0; i < parts.length; i++) {
            numbers[i] = Integer.valueOf(parts[i]);
        }
        for (Method m : LockedInByNext.class.getDeclaredMethods()) {
            if (m.getName().equals(name) && m.getParameterCount() == numbers.length) {
                return (Integer) m.invoke(x, numbers);
            }
        }
        throw new IllegalStateException("no such call: " + name);
    }

    /** Each call of the face is shown; letters and towns are told by tell(..). */
    private void nothingIsLeftOut() {
        called.add("letter");
        called.add("town");
        Set<String> face = new TreeSet<>();
        for (Method m : LockedInByNext.class.getDeclaredMethods()) {
            if (Modifier.isPublic(m.getModifiers())) {
                face.add(m.getName());
            }
        }
        C.due("the calls that README.md shows", String.join(" ", called), String.join(" ", face));
    }
}
