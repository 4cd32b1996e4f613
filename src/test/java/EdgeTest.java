/**
 * The document's sentences in their turn, each with the boundary cases that it names: the least and the greatest that
 * is taken and the first beyond, what is empty, what is full, what wraps around, and what is refused, with nothing
 * done then. A sentence that no test quotes is a fault too.
 */
public final class EdgeTest {
    private EdgeTest() { }

    public static void main(String[] args) {
        ToldEdges.run();
        TapeEdges.run();
        LanguageEdges.run();
        StepEdges.run();
        OrderEdges.run();
        ReadingEdges.run();
        WeightEdges.run();
        ImageEdges.run();
        Due.end();
    }
}
