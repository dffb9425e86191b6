import java.nio.file.Path;

/** Promises 1 to 56: each sentence of the document has a test, one that names a boundary case a test of its own. */
public final class BoundaryTest {
    public static void main(String[] args) throws Exception {
        Book book = new Book(Path.of("../shared/DOC.md"));
        new InputBounds(book).run();
        new ErrorBounds(book).run();
        new NetworkBounds(book).run();
        new LessonBounds(book).run();
        new WayBounds(book).run();
        new SendBounds(book).run();
        new MoveBounds(book).run();
        new PacketBounds(book).run();
        new ForecastBounds(book).run();
        new OutputBounds(book).run();
        new ScriptBounds(book).run();
        new BackBounds(book).run();
        new RefusedBounds(book).run();
        new PlainNetwork(book).run();
        new PlainPackets(book).run();
        book.end();
    }
}
