import java.io.IOException;

/** The document read sentence by sentence, from its first line to its last, each with a test of its own. */
public final class SentencesTest {
    public static void main(String[] args) throws IOException {
        Book book = new Book("../shared/DOC.md");
        new TermsSentences(book).tell();
        new ExceptionsSentences(book).tell();
        new NumbersSentences(book).tell();
        new AskingSentences(book).tell();
        new PowersSentences(book).tell();
        new RootsSentences(book).tell();
        freedoms(book);
        book.nothingIsLeftOut();
        book.check.finish("SentencesTest");
    }

    private static void freedoms(Book book) {
        book.section("Not promised");
        book.frees("How the state is held inside the object is free, as are the speed of each call, the text of "
                + "toString and the behaviour of equals and hashCode.");
        book.frees("Use of one object from several threads at once is not promised to be safe.");
        book.frees("Nothing is promised beyond the answers and state changes described above, and nothing about an "
                + "object after its 512th call.");
    }
}
