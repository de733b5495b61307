import java.io.IOException;

/**
 * Each sentence of the document that names a boundary case (too small, too large, empty, full, a wrap-around, a call
 * that is refused) has a test of its own, in the document's order.
 */
public final class BoundaryTest {
    public static void main(String[] args) throws IOException {
        Document.read();
        SignalBounds.look();
        TickBounds.look();
        GrammarBounds.look();
        ChangeTermBounds.look();
        InputBounds.look();
        TellBounds.look();
        LookBounds.look();
        FutureBounds.look();
        TextBounds.look();
        ChangeBounds.look();
        Document.close();
        Checks.close("BoundaryTest");
    }
}
