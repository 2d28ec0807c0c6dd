import java.io.IOException;

/** The document read sentence by sentence: its terms and its promises 1 to 35, each sentence with a test of its own. */
public final class SentencesTest {
    public static void main(String[] args) throws IOException {
        Book book = new Book("../shared/DOC.md");
        new TermsSentences(book).tell();
        new ExceptionsSentences(book).tell();
        new NumbersSentences(book).tell();
        new AskingSentences(book).tell();
        new PowersSentences(book).tell();
        new RootsSentences(book).tell();
        book.nothingIsLeftOut();
        book.check.finish("SentencesTest");
    }
}
