import java.io.IOException;

/**
 * Promises 1 to 29, and what they rest on, at their bounds: each sentence of the document, from its
 * first line on, has a test of its own here, told by its promise and its words.
 */
final class BoundaryTests {
  public static void main(String[] args) throws IOException {
    Sentences sentences = new Sentences();
    FaceBounds.hold(sentences);
    OpeningBounds.hold(sentences);
    ThingBounds.hold(sentences);
    StepBounds.hold(sentences);
    TurnBounds.hold(sentences);
    RefusalBounds.hold(sentences);
    SetupBounds.hold(sentences);
    ReadBounds.hold(sentences);
    ForecastBounds.hold(sentences);
    ArgumentBounds.hold(sentences);
    sentences.areAllHeld();
    Checks.end("BoundaryTests");
  }
}
