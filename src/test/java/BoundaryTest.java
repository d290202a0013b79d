import java.io.IOException;

/** For each sentence of the document that names a boundary case, a test of its own; and no such sentence is left out. */
public final class BoundaryTest extends Boundaries {
    public static void main(String[] arguments) throws IOException {
        open();
        SendingBoundaries.run();
        TextBoundaries.run();
        QuestionBoundaries.run();
        OperationBoundaries.run();
        nothingIsLeft();
        end("BoundaryTest");
    }
}
