import java.io.IOException;
import java.nio.file.Files;
import java.nio.file.Path;
import java.util.ArrayList;
import java.util.List;

/** Holds the class to the document's sentences, one by one, each by a test of its own. */
final class Sentences {
  /** What many promises say in the same words. */
  static final String NO_CHANNEL = "Throws `IndexOutOfBoundsException` if there is no such channel";
  static final String NO_FIBER = "Throws `IndexOutOfBoundsException` if there is no such fiber";

  private static final Path DOCUMENT = Path.of("../shared/DOC.md");
  private static final int PROMISES = 29;
  /** Lines of "Terms" that name no case of their own: what follows tells it. */
  private static final String[] WITHOUT_A_CASE = {
    "Ahead of ", "Fibers have steps:", "Steps have a kind", "A turn goes like this:",
  };

  private final List<String> terms = new ArrayList<>();
  /** The lines of each promise, at its number. */
  private final List<List<String>> promises = new ArrayList<>();
  /** Of each promise the words that a test holds; at 0 those outside the promises. */
  private final List<List<String>> held = new ArrayList<>();

  Sentences() throws IOException {
    for (int i = 0; i <= PROMISES; i++) {
      promises.add(new ArrayList<>());
      held.add(new ArrayList<>());
    }
    List<String> section = promises.get(0);
    for (String line : Files.readAllLines(DOCUMENT)) {
      if (line.startsWith("## ")) {
        section = sectionOf(line);
      } else if (!line.isBlank() && !line.startsWith("```")) {
        section.add(line);
      }
    }
  }

  private List<String> sectionOf(String heading) {
    if (heading.equals("## Terms")) {
      return terms;
    }
    String mark = "## Promise ";
    if (!heading.startsWith(mark)) {
      return promises.get(0);
    }
    return promises.get(Integer.parseInt(heading.substring(mark.length(), heading.indexOf(':'))));
  }

  /** The words stand in the promise, and the test makes checks that would fail if they were broken. */
  void hold(int promise, String words, Runnable test) {
    held.get(promise).add(words);
    run(promise, words, promises.get(promise), test);
  }

  /** The words stand in "Terms", or ahead of it, and the promise rests on them. */
  void holdTerm(int promise, String words, Runnable test) {
    held.get(0).add(words);
    List<String> lines = new ArrayList<>(terms);
    lines.addAll(promises.get(0));
    run(promise, words, lines, test);
  }

  private void run(int promise, String words, List<String> lines, Runnable test) {
    Checks.under("P" + promise + " '" + words + "': ");
    Checks.yes("these words stand in the document", isAmong(words, lines));
    int before = Checks.made();
    Checks.answers("its test", test::run);
    Checks.yes("a check was made", Checks.made() > before + 1);
    Checks.under("");
  }

  /** Each line of a promise that tells an answer or an exception, and each case of "Terms", is held. */
  void areAllHeld() {
    for (int promise = 1; promise <= PROMISES; promise++) {
      Checks.yes("P" + promise + " is held to", !held.get(promise).isEmpty());
      for (String line : promises.get(promise)) {
        if (line.contains("Throws ") || line.contains("Returns ")) {
          Checks.yes("P" + promise + " is held to: " + line, hasPart(line, held.get(promise)));
        }
      }
    }
    for (String line : terms) {
      if (!startsWithOne(line, WITHOUT_A_CASE)) {
        Checks.yes("Terms are held to: " + line, hasPart(line, held.get(0)));
      }
    }
  }

  private static boolean isAmong(String words, List<String> lines) {
    for (String line : lines) {
      if (line.contains(words)) {
        return true;
      }
    }
    return false;
  }

  private static boolean hasPart(String line, List<String> parts) {
    for (String part : parts) {
      if (line.contains(part)) {
        return true;
      }
    }
    return false;
  }

  private static boolean startsWithOne(String line, String[] starts) {
    for (String start : starts) {
      if (line.startsWith(start)) {
        return true;
      }
    }
    return false;
  }
}
