import java.lang.reflect.Constructor;
import java.lang.reflect.Field;
import java.lang.reflect.Method;
import java.lang.reflect.Modifier;
import java.util.ArrayList;
import java.util.Arrays;
import java.util.HashSet;
import java.util.List;
import java.util.Set;
import java.util.TreeSet;

/** The public face, as the document tells it, and the rules of LANGUAGE.md that reflection can see. */
public final class FaceTest {
    private static final String INDEX = " IndexOutOfBoundsException";
    private static final String ARGUMENT = " IllegalArgumentException";
    private static final String STATE = " IllegalStateException";
    private static final String RECKONED = " ArithmeticException";
    private static final String TOLD = " UnsupportedOperationException";

    private static final String[] FACE = {
        "int put(int,int)" + INDEX + ARGUMENT,
        "int power(int,int,int)" + INDEX + ARGUMENT + TOLD,
        "int twoTo(int,int)" + INDEX + ARGUMENT,
        "int raise(int,int,int)" + INDEX + ARGUMENT + STATE + RECKONED + TOLD,
        "int copy(int,int)" + INDEX,
        "int undo() NoSuchElementException",
        "int kept()",
        "int sign(int)" + INDEX,
        "long odd(int)" + INDEX,
        "int shift(int)" + INDEX,
        "long bits(int)" + INDEX,
        "boolean isWhole(int)" + INDEX,
        "long whole(int)" + INDEX + STATE,
        "int compare(int,int)" + INDEX,
        "int rank(int)" + INDEX,
        "int at(int)" + INDEX,
        "int log(int,int)" + INDEX + ARGUMENT + STATE + RECKONED,
        "int digits(int,int)" + INDEX + ARGUMENT + STATE,
        "int digit(int,int,int)" + INDEX + ARGUMENT + STATE,
        "int root(int,int)" + INDEX + ARGUMENT + STATE + RECKONED,
        "long sum(int,int)" + ARGUMENT + TOLD,
        "int rest(int,int,int)" + ARGUMENT + TOLD,
        "boolean isFermat(int,int)" + ARGUMENT + TOLD,
        "boolean isChain(int,int)" + ARGUMENT + TOLD,
        "boolean addsUp(int,int,int)" + ARGUMENT + TOLD,
        "boolean isNested(int,int,int)" + ARGUMENT + TOLD,
        "long rootBits(int)" + ARGUMENT,
        "boolean isRoot(int)" + ARGUMENT,
        "long rootAt(int,int)" + ARGUMENT,
        "long backBits(int)" + ARGUMENT,
        "boolean isBack(int)" + ARGUMENT,
        "long squareBits(int)" + INDEX + TOLD,
        "boolean isTimes(int)" + INDEX + TOLD,
        "boolean isSound()",
    };

    private static final Check check = new Check();

    public static void main(String[] args) {
        check.due("the class is public and final",
                Powermill.class.getModifiers() == (Modifier.PUBLIC | Modifier.FINAL), true);
        Constructor<?>[] constructors = Powermill.class.getDeclaredConstructors();
        check.due("constructors", constructors.length, 1);
        check.due("the constructor is public", constructors[0].getModifiers(), Modifier.PUBLIC);
        check.due("the constructor's parameters", constructors[0].getParameterCount(), 0);
        methods();
        fields();
        check.finish("FaceTest");
    }

    private static void methods() {
        Set<String> found = new TreeSet<>();
        Set<String> publicNames = new HashSet<>();
        List<Method> hidden = new ArrayList<>();
        for (Method method : Powermill.class.getDeclaredMethods()) {
            if (method.getModifiers() == Modifier.PUBLIC) {
                found.add(told(method));
                publicNames.add(method.getName());
            } else {
                hidden.add(method);
            }
            check.due("parameters of " + method.getName(), method.getParameterCount() <= 7, true);
        }
        Set<String> due = new TreeSet<>(Arrays.asList(FACE));
        for (String method : due) {
            check.due("the face has " + method, found.contains(method), true);
        }
        for (String method : found) {
            check.due("the document has " + method, due.contains(method), true);
        }
        for (Method method : hidden) {
            check.due(method.getName() + " is private", Modifier.isPrivate(method.getModifiers()), true);
            check.due(method.getName() + " bears a public name", publicNames.contains(method.getName()), false);
        }
    }

    private static String told(Method method) {
        StringBuilder text = new StringBuilder(method.getReturnType() + " " + method.getName() + "(");
        for (Class<?> parameter : method.getParameterTypes()) {
            text.append(text.charAt(text.length() - 1) == '(' ? "" : ",").append(parameter);
        }
        text.append(")");
        for (Class<?> exception : method.getExceptionTypes()) {
            text.append(" ").append(exception.getSimpleName());
        }
        return text.toString();
    }

    private static void fields() {
        for (Field field : Powermill.class.getDeclaredFields()) {
            int modifiers = field.getModifiers();
            check.due(field.getName() + " is private", Modifier.isPrivate(modifiers), true);
            check.due(field.getName() + " is no static state",
                    !Modifier.isStatic(modifiers) || Modifier.isFinal(modifiers), true);
        }
    }
}
