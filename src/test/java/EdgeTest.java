import java.io.IOException;

/** For each sentence of the document that names a boundary case, a test of its own. Runs in the project's folder. */
public final class EdgeTest {
    public static void main(String[] args) throws IOException {
        Sentences.open();
        TownEdges.run();
        OpinionEdges.run();
        BookEdges.run();
        FaultEdges.run();
        DayEdges.run();
        AskEdges.run();
        FullEdges.run();
        TextCalls.run();
        StateCalls.run();
        AskCalls.run();
        KeepCalls.run();
        Sentences.close();
        Check.end("EdgeTest");
    }
}
