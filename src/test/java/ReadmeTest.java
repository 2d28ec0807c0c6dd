import java.io.IOException;
import java.lang.reflect.InvocationTargetException;
import java.lang.reflect.Method;
import java.nio.file.Files;
import java.nio.file.Path;
import java.util.Set;
import java.util.TreeSet;
import java.util.regex.Matcher;
import java.util.regex.Pattern;

/** The calls that README.md shows, in their order on one object, each with the answer that it gives there. */
public final class ReadmeTest {
    private static final Pattern CALL = Pattern.compile("mill\\.(\\w+)\\((.*)\\); +// (throws \\w+|[-\\w]+)(: .*)?");

    public static void main(String[] args) throws IOException {
        Check check = new Check();
        Powermill mill = new Powermill();
        Set<String> notShown = new TreeSet<>();
        for (Method method : Powermill.class.getMethods()) {
            if (method.getDeclaringClass() == Powermill.class) {
                notShown.add(method.getName());
            }
        }
        for (String line : Files.readAllLines(Path.of("README.md"))) {
            Matcher shown = CALL.matcher(line);
            if (shown.matches()) {
                check.due(line, outcome(mill, shown.group(1), shown.group(2)), shown.group(3));
                notShown.remove(shown.group(1));
            } else {
                check.due("a call that is shown without its answer: " + line, line.startsWith("mill."), false);
            }
        }
        check.due("methods that README.md does not show", notShown.toString(), "[]");
        check.finish("ReadmeTest");
    }

    private static String outcome(Powermill mill, String name, String list) {
        String[] texts = list.isEmpty() ? new String[0] : list.split(", ");
        Class<?>[] types = new Class<?>[texts.length];
        Object[] arguments = new Object[texts.length];
        for (int i = 0; i < texts.length; i++) {
            types[i] = int.class;
            arguments[i] = Integer.valueOf(texts[i]);
        }
        try {
            return String.valueOf(Powermill.class.getMethod(name, types).invoke(mill, arguments));
        } catch (InvocationTargetException e) {
            return "throws " + e.getCause().getClass().getSimpleName();
        } catch (ReflectiveOperationException e) {
            return "cannot be called: " + e;
        }
    }
}
