import java.io.DataInputStream;
import java.io.IOException;
import java.io.InputStream;
import java.nio.file.Files;
import java.nio.file.Path;
import java.util.ArrayList;
import java.util.List;
import java.util.Set;
import java.util.TreeSet;
import java.util.regex.Matcher;
import java.util.regex.Pattern;

/** Rules of LANGUAGE.md that show in the compiled class or in the source; each test names its rule. */
public final class LanguageTest {
    private static final Path PROGRAM = Path.of("src/main/java/Powermill.java");
    private static final Path FOLDER = PROGRAM.getParent();
    private static final int LINES_A_METHOD = 60;

    // Not all that the rules leave: a call that is new here is to be looked up there first.
    private static final Set<String> LIBRARY = Set.of(
            "java/lang/Object.<init>()V",
            "java/lang/Math.floorMod(JJ)J",
            "java/lang/IllegalStateException.<init>(Ljava/lang/String;)V",
            "java/lang/IllegalArgumentException.<init>(Ljava/lang/String;)V",
            "java/lang/IndexOutOfBoundsException.<init>(Ljava/lang/String;)V",
            "java/lang/ArithmeticException.<init>(Ljava/lang/String;)V",
            "java/lang/UnsupportedOperationException.<init>(Ljava/lang/String;)V",
            "java/util/NoSuchElementException.<init>(Ljava/lang/String;)V");

    private static final String[] RULED_OUT = {"catch", "finally", "try", "assert", "synchronized", "instanceof",
        "protected", "package", "static \\{", "->", "::", "@"};

    private static final Check check = new Check();

    public static void main(String[] args) throws IOException {
        try (var files = Files.walk(FOLDER)) {
            check.due("one file", files.filter(Files::isRegularFile).toList().toString(), "[" + PROGRAM + "]");
        }
        check.due("classes inside, which would have to be read too", Powermill.class.getDeclaredClasses().length, 0);
        for (String called : calledOutside()) {
            check.due("rules 4, 6 and 13: the library has " + called, LIBRARY.contains(called), true);
        }
        List<String> lines = Files.readAllLines(PROGRAM);
        source(withoutTextsAndComments(lines));
        shortMethods(lines);
        check.finish("LanguageTest");
    }

    // ---- the compiled class

    /** The methods of other classes that the class calls, by the constants of its file. */
    private static Set<String> calledOutside() throws IOException {
        try (InputStream file = Powermill.class.getResourceAsStream("Powermill.class");
                DataInputStream in = new DataInputStream(file)) {
            in.readLong();
            return new ConstantPool(in).calledOutside("Powermill");
        }
    }

    /** The constants of a class file, as the Java Virtual Machine Specification (4.4) lays them out. */
    private static final class ConstantPool {
        private final int[] tags;
        private final int[] firsts;
        private final int[] seconds;
        private final String[] texts;

        ConstantPool(DataInputStream in) throws IOException {
            int count = in.readUnsignedShort();
            tags = new int[count];
            firsts = new int[count];
            seconds = new int[count];
            texts = new String[count];
            for (int index = 1; index < count; index++) {
                tags[index] = in.readUnsignedByte();
                switch (tags[index]) {
                    case 1 -> texts[index] = in.readUTF();
                    case 3, 4 -> in.readInt();
                    case 5, 6 -> {
                        in.readLong();
                        index++;
                    }
                    case 7, 8 -> firsts[index] = in.readUnsignedShort();
                    case 9, 10, 11, 12 -> {
                        firsts[index] = in.readUnsignedShort();
                        seconds[index] = in.readUnsignedShort();
                    }
                    // Lambdas, method references and texts joined by + come with such ones.
                    default -> throw new IOException("rules 2 and 10: a constant of the kind " + tags[index]);
                }
            }
        }

        private String text(int index) {
            return texts[firsts[index]];
        }

        Set<String> calledOutside(String own) {
            Set<String> found = new TreeSet<>();
            for (int index = 1; index < tags.length; index++) {
                boolean isMethod = tags[index] == 10 || tags[index] == 11;
                if (isMethod && !text(firsts[index]).equals(own)) {
                    int nameAndType = seconds[index];
                    found.add(text(firsts[index]) + "." + text(nameAndType) + texts[seconds[nameAndType]]);
                }
            }
            return found;
        }
    }

    // ---- the source

    private static String withoutTextsAndComments(List<String> lines) {
        String source = String.join("\n", lines);
        String bare = source.replaceAll("\"[^\"\n]*\"", "\"\"");
        return Pattern.compile("/\\*.*?\\*/", Pattern.DOTALL).matcher(bare).replaceAll("").replaceAll("//.*", "");
    }

    private static String constructor(String code) {
        int start = code.indexOf("public Powermill()");
        return code.substring(start, code.indexOf("\n    }", start));
    }

    private static void source(String code) {
        for (String word : RULED_OUT) {
            check.due("no " + word, has(code, Character.isLetter(word.charAt(0)) ? "\\b" + word : word), false);
        }
        check.due("rule 6: a throw makes what it throws", has(code, "throw (?!new )"), false);
        check.due("rule 6: the constructor throws nothing", constructor(code).contains("throw"), false);
        check.due("rule 9: a loop without a condition", has(code, "while \\(true\\)|for \\([^;]*;\\s*;"), false);
    }

    private static boolean has(String code, String pattern) {
        return Pattern.compile(pattern).matcher(code).find();
    }

    private static void shortMethods(List<String> lines) {
        Pattern head = Pattern.compile("    (?:public|private) [^=;]*?(\\w+)\\(.*");
        List<String> tooLong = new ArrayList<>();
        String name = "";
        int start = -1;
        for (int line = 0; line < lines.size(); line++) {
            Matcher method = head.matcher(lines.get(line));
            if (method.matches()) {
                name = method.group(1);
                start = line;
            } else if (lines.get(line).equals("    }") && line - start >= LINES_A_METHOD) {
                tooLong.add(name);
            }
        }
        check.due("rule 11: a method was found", start > 0, true);
        check.due("rule 11: methods of more than " + LINES_A_METHOD + " lines", tooLong.toString(), "[]");
    }
}
