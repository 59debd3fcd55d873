import java.io.IOException;
import java.nio.file.Files;
import java.nio.file.Path;
import java.util.ArrayList;
import java.util.Arrays;
import java.util.List;
import java.util.regex.Pattern;

/** Holds the class to the document's sentences, one by one, each by a test of its own. */
final class Sentences {
  /** What many promises say in the same words. */
  static final String NO_CHANNEL = "Throws `IndexOutOfBoundsException` if there is no such channel";
  static final String NO_FIBER = "Throws `IndexOutOfBoundsException` if there is no such fiber";

  private static final Path DOCUMENT = Path.of("../shared/DOC.md");
  private static final int PROMISES = 29;
  /** Words that name a part of the document, join two sentences, or leave an answer free. */
  private static final String[] ASKS_NOTHING = {
    "what later calls answer is free", "Channels", "Fibers", "and", "or",
  };

  /** The lines of each promise, at its number; at 0 those ahead of the promises. */
  private final List<List<String>> lines = new ArrayList<>();
  /** The words of them that a test holds, likewise. */
  private final List<List<String>> held = new ArrayList<>();

  Sentences() throws IOException {
    for (int i = 0; i <= PROMISES; i++) {
      lines.add(new ArrayList<>());
      held.add(new ArrayList<>());
    }
    List<String> section = lines.get(0);
    for (String line : Files.readAllLines(DOCUMENT)) {
      if (line.startsWith("## ")) {
        section = sectionOf(line);
      } else if (!line.isBlank() && !line.startsWith("```") && !line.startsWith("# ")) {
        section.add(line);
      }
    }
  }

  private List<String> sectionOf(String heading) {
    String mark = "## Promise ";
    if (heading.startsWith(mark)) {
      return lines.get(Integer.parseInt(heading.substring(mark.length(), heading.indexOf(':'))));
    }
    // What is not promised is nothing that a test could hold the class to.
    return heading.equals("## Not promised") ? new ArrayList<>() : lines.get(0);
  }

  /** The words stand in the promise, and the test makes checks that would fail if they were broken. */
  void hold(int promise, String words, Runnable test) {
    run(promise, promise, words, test);
  }

  /** The words stand ahead of the promises, in "Terms" most often, and the promise rests on them. */
  void holdTerm(int promise, String words, Runnable test) {
    run(promise, 0, words, test);
  }

  private void run(int promise, int section, String words, Runnable test) {
    held.get(section).add(words);
    Checks.under("P" + promise + " '" + words + "': ");
    Checks.yes("these words stand in the document", isAmong(words, lines.get(section)));
    int before = Checks.made();
    Checks.answers("its test", test::run);
    Checks.yes("a check was made", Checks.made() > before + 1);
    Checks.under("");
  }

  /** Each word of the document, but for those that ask nothing, stands among words that are held. */
  void areAllHeld() {
    for (int section = 0; section <= PROMISES; section++) {
      String name = section == 0 ? "ahead of the promises" : "P" + section;
      Checks.yes(name + " has lines", !lines.get(section).isEmpty());
      for (String line : lines.get(section)) {
        Checks.sameText(name + ", words without a test in: " + line, unheld(line, held.get(section)),
            "");
      }
    }
  }

  private static boolean isAmong(String words, List<String> lines) {
    for (String line : lines) {
      if (line.contains(words)) {
        return true;
      }
    }
    return false;
  }

  /** What is left of the line behind taking out the words that are held, and those that ask nothing. */
  private static String unheld(String line, List<String> held) {
    char[] left = line.toCharArray();
    for (String words : held) {
      blank(left, line, words);
    }
    String rest = new String(left);
    for (String words : ASKS_NOTHING) {
      rest = rest.replaceAll("(?<!\\w)" + Pattern.quote(words) + "(?!\\w)", " ");
    }
    return rest.replaceAll("\\W+", " ").trim();
  }

  /** Blanks the words wherever they stand in the line. */
  private static void blank(char[] left, String line, String words) {
    for (int at = line.indexOf(words); at >= 0; at = line.indexOf(words, at + 1)) {
      Arrays.fill(left, at, at + words.length(), ' ');
    }
  }
}
