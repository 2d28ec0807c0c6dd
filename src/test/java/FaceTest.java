import java.io.IOException;
import java.lang.reflect.Constructor;
import java.lang.reflect.Field;
import java.lang.reflect.Method;
import java.lang.reflect.Modifier;
import java.nio.file.Files;
import java.nio.file.Path;
import java.util.ArrayList;
import java.util.HashSet;
import java.util.List;
import java.util.Set;
import java.util.TreeSet;
import java.util.regex.Matcher;
import java.util.regex.Pattern;

/** The public face, as the document tells it, and the rules of LANGUAGE.md that reflection can see. */
public final class FaceTest {
    private static final Path DOCUMENT = Path.of("../shared/DOC.md");
    private static final Path PROGRAM = Path.of("src/main/java/Powermill.java");
    private static final int METHODS = 34;
    private static final int HEADINGS = 7;
    private static final Pattern METHOD = Pattern.compile("    public (?:int|long|boolean) (\\w+)\\(");

    private static final Check check = new Check();

    public static void main(String[] args) throws IOException {
        check.due("the class is public and final",
                Powermill.class.getModifiers() == (Modifier.PUBLIC | Modifier.FINAL), true);
        Constructor<?>[] constructors = Powermill.class.getDeclaredConstructors();
        check.due("constructors", constructors.length, 1);
        check.due("the constructor is public", constructors[0].getModifiers(), Modifier.PUBLIC);
        check.due("the constructor's parameters", constructors[0].getParameterCount(), 0);
        methods(new TreeSet<>(face()));
        fields();
        headings();
        check.finish("FaceTest");
    }

    /** The methods that the document's section 'The public face' writes out, as told(..) tells a method. */
    private static List<String> face() throws IOException {
        List<String> methods = new ArrayList<>();
        for (String line : Files.readAllLines(DOCUMENT)) {
            if (line.startsWith("    public ") && !line.contains(" Powermill(")) {
                String told = line.strip().replaceFirst("^public ", "").replace(";", "");
                String parameters = told.substring(told.indexOf('('), told.indexOf(')') + 1);
                String types = parameters.replaceAll("(\\w+) \\w+", "$1").replace(", ", ",");
                String thrown = told.substring(told.indexOf(')') + 1).replace(" throws", "").replace(",", "");
                methods.add(told.substring(0, told.indexOf('(')) + types + thrown);
            }
        }
        check.due("methods in the document", methods.size(), METHODS);
        return methods;
    }

    private static void methods(Set<String> due) {
        Set<String> found = new TreeSet<>();
        Set<String> publicNames = new HashSet<>();
        List<Method> hidden = new ArrayList<>();
        for (Method method : Powermill.class.getDeclaredMethods()) {
            if (method.getModifiers() == Modifier.PUBLIC) {
                found.add(told(method));
                publicNames.add(method.getName());
            } else {
                hidden.add(method);
            }
            check.due("parameters of " + method.getName(), method.getParameterCount() <= 7, true);
        }
        for (String method : due) {
            check.due("the face has " + method, found.contains(method), true);
        }
        for (String method : found) {
            check.due("the document has " + method, due.contains(method), true);
        }
        for (Method method : hidden) {
            check.due(method.getName() + " is private", Modifier.isPrivate(method.getModifiers()), true);
            check.due(method.getName() + " bears a public name", publicNames.contains(method.getName()), false);
        }
    }

    private static String told(Method method) {
        StringBuilder text = new StringBuilder(method.getReturnType() + " " + method.getName() + "(");
        for (Class<?> parameter : method.getParameterTypes()) {
            text.append(text.charAt(text.length() - 1) == '(' ? "" : ",").append(parameter);
        }
        text.append(")");
        for (Class<?> exception : method.getExceptionTypes()) {
            text.append(" ").append(exception.getSimpleName());
        }
        return text.toString();
    }

    private static void fields() {
        for (Field field : Powermill.class.getDeclaredFields()) {
            int modifiers = field.getModifiers();
            check.due(field.getName() + " is private", Modifier.isPrivate(modifiers), true);
            check.due(field.getName() + " is no static state",
                    !Modifier.isStatic(modifiers) || Modifier.isFinal(modifiers), true);
        }
    }

    /** The document says which heading stands ahead of which calls; the program's public methods stand so. */
    private static void headings() throws IOException {
        StringBuilder due = new StringBuilder();
        int headings = 0;
        for (String line : Files.readAllLines(DOCUMENT)) {
            if (line.startsWith("Ahead of the calls ")) {
                int end = line.indexOf(" the interface says: ");
                String calls = line.substring("Ahead of the calls ".length(), end).replace("`", "").replace(",", "");
                due.append(line.substring(line.indexOf("----")).replaceFirst("\\.$", ""));
                due.append(": ").append(calls).append('\n');
                headings++;
            }
        }
        check.due("headings in the document", headings, HEADINGS);
        check.due("the headings of the program, and the calls behind them", headingsOfProgram(), due.toString());
    }

    private static String headingsOfProgram() throws IOException {
        StringBuilder text = new StringBuilder();
        String heading = "";
        for (String line : Files.readAllLines(PROGRAM)) {
            Matcher method = METHOD.matcher(line);
            if (line.startsWith("    // ---- ")) {
                heading = line.substring("    // ".length());
            } else if (method.lookingAt()) {
                boolean first = text.indexOf(heading + ": ") < 0;
                text.append(first ? "\n" + heading + ": " : " ").append(method.group(1));
            }
        }
        return text.append('\n').substring(1);
    }
}
