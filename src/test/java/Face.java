import java.io.IOException;
import java.lang.reflect.Method;
import java.nio.file.Files;
import java.nio.file.Path;

/** The methods of the face as the document writes them, the promises 2 to 29 in their order. */
final class Face {
  static final int FIRST = 2;
  static final int LAST = 29;

  private static final String[] SIGNATURES = {
    "int addChannel(int places) throws IllegalArgumentException, IllegalStateException",
    "int addFiber() throws IllegalStateException",
    "int addStep(int fiber, int kind, int one, int two)"
        + " throws IndexOutOfBoundsException, IllegalArgumentException, IllegalStateException",
    "int pour(int channel, int value)"
        + " throws IndexOutOfBoundsException, IllegalArgumentException, IllegalStateException",
    "int run(int turns) throws IllegalArgumentException",
    "int time()",
    "int channels()",
    "int fibers()",
    "int done()",
    "int idleTurns()",
    "int next()",
    "boolean isStuck()",
    "int held(int channel) throws IndexOutOfBoundsException",
    "int valueAt(int channel, int drop) throws IndexOutOfBoundsException",
    "int sendersAt(int channel) throws IndexOutOfBoundsException",
    "int takersAt(int channel) throws IndexOutOfBoundsException",
    "int stateOf(int fiber) throws IndexOutOfBoundsException",
    "int placeOf(int fiber) throws IndexOutOfBoundsException",
    "int sumOf(int fiber) throws IndexOutOfBoundsException",
    "int stepsDone(int fiber) throws IndexOutOfBoundsException",
    "int turnsOf(int fiber) throws IndexOutOfBoundsException",
    "int placeInLine(int fiber) throws IndexOutOfBoundsException",
    "int turnsUntilDone(int fiber) throws IndexOutOfBoundsException",
    "int turnsUntilStuck()",
    "int sumIn(int fiber, int turns) throws IndexOutOfBoundsException, IllegalArgumentException",
    "int placesWanted(int channel) throws IndexOutOfBoundsException",
    "double meanTurns()",
    "long digest()",
  };

  private Face() {
  }

  static String signature(int promise) {
    return SIGNATURES[promise - FIRST];
  }

  static String name(int promise) {
    String ahead = signature(promise).substring(0, signature(promise).indexOf('('));
    return ahead.substring(ahead.indexOf(' ') + 1);
  }

  /** The signature without the names of its arguments, as that of a compiled method is shown. */
  static String shown(int promise) {
    return signature(promise).replaceAll("\\bint \\w+(?=[,)])", "int");
  }

  static String shown(Method method) {
    String[] types = names(method.getParameterTypes());
    String[] thrown = names(method.getExceptionTypes());
    return method.getReturnType().getSimpleName() + " " + method.getName() + "("
        + String.join(", ", types) + ")"
        + (thrown.length == 0 ? "" : " throws " + String.join(", ", thrown));
  }

  private static String[] names(Class<?>[] types) {
    String[] names = new String[types.length];
    for (int i = 0; i < types.length; i++) {
      names[i] = types[i].getSimpleName();
    }
    return names;
  }

  /** The class as it is written, with one space for all that parts two words. */
  static String source() throws IOException {
    return Files.readString(Path.of("src/main/java/WaterFibers.java")).replaceAll("\\s+", " ");
  }

  /** The beginning of the method in the source. */
  static String declaration(int promise) {
    return "public " + signature(promise) + " {";
  }
}
