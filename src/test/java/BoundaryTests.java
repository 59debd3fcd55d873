import java.io.IOException;

/**
 * Promises 1 to 29 at their bounds: each sentence of the document that names one has a test of its own
 * here, told by its promise and its words.
 */
final class BoundaryTests {
  public static void main(String[] args) throws IOException {
    Sentences sentences = new Sentences();
    ThingBounds.hold(sentences);
    StepBounds.hold(sentences);
    TurnBounds.hold(sentences);
    RefusalBounds.hold(sentences);
    SetupBounds.hold(sentences);
    ReadBounds.hold(sentences);
    ForecastBounds.hold(sentences);
    sentences.areAllHeld();
    Checks.end("BoundaryTests");
  }
}
