import java.io.IOException;
import java.nio.charset.StandardCharsets;
import java.nio.file.Files;
import java.nio.file.Path;
import java.util.ArrayList;
import java.util.Arrays;
import java.util.List;
import java.util.regex.Matcher;
import java.util.regex.Pattern;

/**
 * The example of README.md: it compiles and runs by the commands that stand there, and prints what stands
 * behind each of its lines; and the model of the document, tried on it too, answers the same.
 */
final class ReadmeTests {
  private static final Path README = Path.of("README.md");
  private static final Path CLASS = Path.of("src/main/java/WaterFibers.java");
  /** A line that prints, and what README.md says that it prints. */
  private static final Pattern PRINTS = Pattern.compile("System\\.out\\.println\\(.*\\);(?: *// (.*))?");

  private final String readme;
  private final String example;
  private final Path room;

  private ReadmeTests(Path emptyRoom) throws IOException {
    readme = Files.readString(README);
    example = String.join("\n", block("java")) + "\n";
    room = emptyRoom;
  }

  public static void main(String[] args) throws IOException, InterruptedException {
    Path room = Files.createTempDirectory("readme");
    try {
      new ReadmeTests(room).check();
    } finally {
      empty(room);
    }
    Checks.end("ReadmeTests");
  }

  private static void empty(Path directory) throws IOException {
    List<Path> all;
    try (java.util.stream.Stream<Path> walked = Files.walk(directory)) {
      all = new ArrayList<>(walked.toList());
    }
    for (int i = all.size() - 1; i >= 0; i--) {
      Files.delete(all.get(i));
    }
  }

  private void check() throws IOException, InterruptedException {
    makesAllCalls();
    printsWhatItSays();
    modelPrintsTheSame();
    tellsHowToRunTheTests();
  }

  private void makesAllCalls() {
    Checks.yes("the example makes an object", example.contains("new WaterFibers()"));
    for (int promise = Face.FIRST; promise <= Face.LAST; promise++) {
      Checks.yes("the example calls " + Face.name(promise),
          example.contains("clock." + Face.name(promise) + "("));
    }
  }

  /** As one who reads README.md would do it, in a directory that holds the class and the example. */
  private void printsWhatItSays() throws IOException, InterruptedException {
    Path copy = room.resolve(CLASS);
    Files.createDirectories(copy.getParent());
    Files.copy(CLASS, copy);
    Files.writeString(room.resolve("Example.java"), example);
    List<String> commands = block("sh");
    Checks.same("the commands", commands.size(), 2);
    List<String> printed = new ArrayList<>();
    for (String command : commands) {
      printed.addAll(run(room, command.split(" ")));
    }
    samePrinted("the example", printed);
  }

  private void modelPrintsTheSame() throws IOException, InterruptedException {
    Path file = Files.createDirectory(room.resolve("model")).resolve("Example.java");
    Files.writeString(file, example.replace("WaterFibers", "ModelFace"));
    String classes = System.getProperty("java.class.path");
    String out = room.resolve("model").toString();
    Path here = Path.of("").toAbsolutePath();
    List<String> printed = run(here, "javac", "-cp", classes, "-d", out, file.toString());
    printed.addAll(run(here, "java", "-cp", out + java.io.File.pathSeparator + classes, "Example"));
    samePrinted("the example, tried on the model", printed);
  }

  private void tellsHowToRunTheTests() {
    Checks.yes("README.md says how to run the tests", readme.contains("\nbash .ci/run\n"));
    Checks.yes("it is there", Files.isRegularFile(Path.of(".ci/run")));
  }

  private void samePrinted(String what, List<String> printed) {
    List<String> due = said();
    Checks.same(what + ", lines printed", printed.size(), due.size());
    for (int i = 0; i < due.size() && i < printed.size(); i++) {
      Checks.sameText(what + ", the line " + i, printed.get(i), due.get(i));
    }
  }

  /** What README.md says that the example prints. */
  private List<String> said() {
    List<String> said = new ArrayList<>();
    for (String line : example.split("\n")) {
      Matcher prints = PRINTS.matcher(line);
      if (prints.find()) {
        said.add(String.valueOf(prints.group(1)));
      }
    }
    return said;
  }

  /** The lines of the first block of README.md in that language. */
  private List<String> block(String language) {
    List<String> lines = Arrays.asList(readme.split("\n"));
    int first = lines.indexOf("```" + language) + 1;
    int end = first;
    while (first > 0 && end < lines.size() && !lines.get(end).equals("```")) {
      end++;
    }
    Checks.yes("README.md has a block of " + language, end > first);
    return lines.subList(first, end);
  }

  private static List<String> run(Path directory, String... command)
      throws IOException, InterruptedException {
    Process process = new ProcessBuilder(command).directory(directory.toFile())
        .redirectError(ProcessBuilder.Redirect.INHERIT).start();
    process.getOutputStream().close();
    String printed = new String(process.getInputStream().readAllBytes(), StandardCharsets.UTF_8);
    Checks.same(String.join(" ", command) + ", its exit code", process.waitFor(), 0);
    return new ArrayList<>(printed.isEmpty() ? List.of() : Arrays.asList(printed.split("\n")));
  }
}
