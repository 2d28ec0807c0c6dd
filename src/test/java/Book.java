import java.io.IOException;
import java.nio.file.Files;
import java.nio.file.Path;
import java.util.LinkedHashMap;
import java.util.Map;

/** The document: each of its sentences is to be told with a test of its own, and none may be left out. */
final class Book {
    final Check check = new Check();
    final Trial trial = new Trial(check);

    /** What is not told yet, by the heading of its section. */
    private final Map<String, String> untold = new LinkedHashMap<>();
    private String heading = "";

    Book(String path) throws IOException {
        StringBuilder text = new StringBuilder();
        for (String line : Files.readAllLines(Path.of(path))) {
            if (line.startsWith("## ")) {
                untold.put(heading, text.toString());
                heading = line.substring(3);
                text.setLength(0);
            } else if (isSentence(line)) {
                text.append(withoutSignature(line).replace("`", "")).append(' ');
            }
        }
        untold.put(heading, text.toString());
    }

    /** The lists of parameters ask for nothing that a call could break, and FaceTest reads the headings. */
    private static boolean isSentence(String line) {
        return !line.startsWith("- `") && !line.startsWith("Ahead of the calls ");
    }

    private static String withoutSignature(String line) {
        int end = line.indexOf("`: ");
        return line.startsWith("`") && end >= 0 ? line.substring(end + 3) : line;
    }

    void section(String name) {
        heading = name;
        check.due("the document has the section " + name, untold.containsKey(name), true);
    }

    /** The section says this, and the test is what would fail if it were broken. */
    void says(String sentence, Runnable test) {
        String text = untold.getOrDefault(heading, "");
        int start = text.indexOf(sentence);
        check.due(heading + " says: " + sentence, start >= 0, true);
        if (start >= 0) {
            untold.put(heading, text.substring(0, start) + text.substring(start + sentence.length()));
        }
        int before = check.count();
        int wrongBefore = check.wrong();
        try {
            test.run();
        } catch (RuntimeException e) {
            check.due(heading + ": " + sentence, "throws " + e, "throws nothing");
        }
        check.due("the sentence has a test: " + sentence, check.count() > before, true);
        if (check.wrong() > wrongBefore) {
            System.out.println("  (" + heading + ", where it says: " + sentence + ")");
        }
    }

    /** The section says this, which leaves the program free, so that no test can fail. */
    void frees(String sentence) {
        says(sentence, () -> check.due("nothing is asked", 0, 0));
    }

    void nothingIsLeftOut() {
        for (Map.Entry<String, String> section : untold.entrySet()) {
            boolean isTitle = section.getKey().isEmpty();
            // FaceTest compares the whole section with the class.
            if (!isTitle && !section.getKey().equals("The public face")) {
                check.due("what is not tested of " + section.getKey(), section.getValue().strip(), "");
            }
        }
    }
}
