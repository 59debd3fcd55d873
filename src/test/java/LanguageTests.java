import java.io.IOException;
import java.lang.reflect.Executable;
import java.lang.reflect.Field;
import java.lang.reflect.Modifier;
import java.nio.file.Files;
import java.nio.file.Path;
import java.util.ArrayList;
import java.util.Arrays;
import java.util.List;
import java.util.Set;
import java.util.TreeSet;
import java.util.regex.Matcher;
import java.util.regex.Pattern;

/** The rules of ../shared/LANGUAGE.md that can be told from the text of the class, or by reflection. */
final class LanguageTests {
  private static final Path SOURCE = Path.of("src/main/java/WaterFibers.java");
  private static final Set<String> THROWN = Set.of("IllegalStateException", "IllegalArgumentException",
      "IndexOutOfBoundsException", "ArithmeticException", "UnsupportedOperationException",
      "NoSuchElementException", "RuntimeException");
  private static final Set<String> LIBRARY = Set.of("String", "StringBuilder", "Integer", "Long", "Math",
      "List", "ArrayList", "Iterator", "Iterable", "Comparable", "System.arraycopy", "Arrays.copyOf",
      "Arrays.copyOfRange", "Arrays.fill");
  /** What the machine throws, and the classes above it. */
  private static final Set<String> NEVER_CAUGHT = Set.of("ArrayIndexOutOfBoundsException",
      "NullPointerException", "ClassCastException", "NegativeArraySizeException", "ArrayStoreException",
      "ArithmeticException", "IndexOutOfBoundsException", "RuntimeException", "Exception", "Throwable");
  private static final String[] NEVER_WRITTEN = {
    "->", "::", "package ", "synchronized", "assert ", "finally", "try (", "static {", "native",
    "volatile", "transient", "strictfp", "protected", "Exact(", "getMessage", "equals(Object",
    "hashCode", "toString()", "import java.io", "import java.util.function", "import java.util.stream",
  };
  private static final int MOST_LINES = 60;
  private static final int MOST_ARGUMENTS = 7;
  private static final int MOST_CLASSES = 12;
  private static final int MOST_FIELDS = 20;

  private final String source;
  /** The source without its comments, and with the written texts left empty. */
  private final String code;
  private final List<Class<?>> classes = new ArrayList<>();

  private LanguageTests() throws IOException {
    source = Files.readString(SOURCE);
    code = source.replaceAll("(?s)/\\*.*?\\*/", "").replaceAll("//[^\n]*", "")
        .replaceAll("\"[^\"\n]*\"", "\"\"");
    classes.add(WaterFibers.class);
    classes.addAll(Arrays.asList(WaterFibers.class.getDeclaredClasses()));
  }

  public static void main(String[] args) throws IOException {
    LanguageTests tests = new LanguageTests();
    tests.checkWords();
    tests.checkNames();
    tests.checkExceptions();
    tests.checkClasses();
    tests.checkLengths();
    Checks.end("LanguageTests");
  }

  private void checkWords() {
    Checks.yes("its signs are 1 to 127", source.chars().allMatch(sign -> sign >= 1 && sign <= 127));
    for (String words : NEVER_WRITTEN) {
      Checks.no("'" + words + "' stands in the class", code.contains(words));
    }
  }

  /** Rule 4: each name with a capital is a constant, a class of the file's own, or one that is listed. */
  private void checkNames() {
    Set<String> own = new TreeSet<>();
    for (Class<?> each : classes) {
      own.add(each.getSimpleName());
    }
    Matcher names = Pattern.compile("\\b[A-Z]\\w*(?:\\.\\w+)?").matcher(code);
    while (names.find()) {
      String name = names.group();
      String first = name.replaceAll("\\..*", "");
      boolean isConstant = first.equals(first.toUpperCase());
      Checks.yes("the name " + name + " is one of those that the rules list", isConstant
          || own.contains(first) || THROWN.contains(first) || LIBRARY.contains(first)
          || LIBRARY.contains(name));
    }
  }

  private void checkExceptions() {
    Matcher thrown = Pattern.compile("\\bthrow\\b[^;]*;").matcher(code);
    while (thrown.find()) {
      Matcher made = Pattern.compile("throw new (\\w+)\\((?:\"\")?\\);").matcher(thrown.group());
      Checks.yes(thrown.group() + " is written as rule 6 says",
          made.matches() && THROWN.contains(made.group(1)));
    }
    Matcher caught = Pattern.compile("\\bcatch \\(([\\w |]+) \\w+\\)").matcher(code);
    while (caught.find()) {
      for (String name : caught.group(1).split(" *\\| *")) {
        Checks.no("catches " + name, NEVER_CAUGHT.contains(name));
      }
    }
  }

  private void checkClasses() {
    Checks.yes("classes: " + classes.size(), classes.size() <= MOST_CLASSES);
    for (Class<?> each : classes) {
      String name = each.getSimpleName();
      int modifiers = each.getModifiers();
      Checks.yes(name + " is as rule 1 says", each == WaterFibers.class
          || Modifier.isStatic(modifiers) && !Modifier.isPublic(modifiers));
      int fields = 0;
      for (Field field : each.getDeclaredFields()) {
        boolean isStatic = Modifier.isStatic(field.getModifiers());
        fields += isStatic ? 0 : 1;
        Checks.yes(name + "." + field.getName() + " is final, if it is static",
            !isStatic || Modifier.isFinal(field.getModifiers()));
      }
      Checks.yes(name + ", fields: " + fields, fields <= MOST_FIELDS);
      List<Executable> methods = new ArrayList<>(Arrays.asList(each.getDeclaredMethods()));
      methods.addAll(Arrays.asList(each.getDeclaredConstructors()));
      for (Executable method : methods) {
        Checks.yes(name + "." + method.getName() + ", arguments",
            method.getParameterCount() <= MOST_ARGUMENTS);
      }
    }
  }

  /** A method ends where a line closes what its first line, as far in, has opened. */
  private void checkLengths() {
    Matcher methods = Pattern.compile("(?m)^( +)[^\n;=]*\\([^;=]*\\{\n(?:.*\n)*?\\1\\}$").matcher(code);
    int found = 0;
    while (methods.find()) {
      int lines = methods.group().split("\n").length;
      found++;
      Checks.yes(methods.group().split("\n")[0].trim() + " lines: " + lines, lines <= MOST_LINES);
    }
    Checks.yes("methods found: " + found, found >= Face.LAST);
  }
}
