import java.io.IOException;
import java.lang.reflect.Constructor;
import java.lang.reflect.Method;
import java.lang.reflect.Modifier;

/** What "The public face", and the first line of each promise, say of the class and its methods. */
final class FaceBounds {
  private final Sentences sentences;
  private final String source;

  private FaceBounds(Sentences allSentences) throws IOException {
    sentences = allSentences;
    source = Face.source();
  }

  static void hold(Sentences sentences) throws IOException {
    FaceBounds face = new FaceBounds(sentences);
    sentences.holdTerm(1, "public final class WaterFibers {", face::isPublicAndFinal);
    sentences.holdTerm(1, "public WaterFibers();", face::hasTheConstructor);
    sentences.hold(1, "`WaterFibers()`:", face::hasTheConstructor);
    for (int promise = Face.FIRST; promise <= Face.LAST; promise++) {
      int number = promise;
      sentences.holdTerm(promise, "public " + Face.signature(promise) + ";",
          () -> face.hasTheMethod(number));
      sentences.hold(promise, "`" + Face.signature(promise) + "`:", () -> face.declares(number));
    }
    sentences.holdTerm(2, "All numbers are whole.", FaceBounds::numbersAreWhole);
    face.holdPart("what there is", 2, 6);
    face.holdPart("the clock", 7, 13);
    face.holdPart("channels", 14, 17);
    face.holdPart("fibers", 18, 23);
    face.holdPart("what would be", 24, 29);
  }

  private void isPublicAndFinal() {
    int modifiers = WaterFibers.class.getModifiers();
    Checks.yes("public", Modifier.isPublic(modifiers));
    Checks.yes("final", Modifier.isFinal(modifiers));
    Checks.sameText("its name", WaterFibers.class.getName(), "WaterFibers");
    Checks.yes("in the source", source.contains("public final class WaterFibers {"));
  }

  private void hasTheConstructor() {
    Constructor<?>[] made = WaterFibers.class.getConstructors();
    Checks.same("public constructors", made.length, 1);
    Checks.same("its arguments", made[0].getParameterCount(), 0);
    Checks.same("what it says it throws", made[0].getExceptionTypes().length, 0);
    Checks.yes("in the source", source.contains("public WaterFibers() {"));
  }

  private void hasTheMethod(int promise) {
    int count = 0;
    for (Method method : WaterFibers.class.getMethods()) {
      if (method.getName().equals(Face.name(promise))) {
        count++;
        Checks.sameText("the method", Face.shown(method), Face.shown(promise));
        Checks.no("static", Modifier.isStatic(method.getModifiers()));
      }
    }
    Checks.same("methods of this name", count, 1);
  }

  /** The names of the arguments too, which the compiled class does not tell. */
  private void declares(int promise) {
    Checks.yes("in the source: " + Face.declaration(promise),
        source.contains(Face.declaration(promise)));
  }

  /** What is counted or told is an int, or a long; but a mean need not be whole. */
  private static void numbersAreWhole() {
    for (int promise = Face.FIRST; promise <= Face.LAST; promise++) {
      String answer = Face.name(promise).equals("isStuck") ? "boolean"
          : Face.name(promise).equals("meanTurns") ? "double"
          : Face.name(promise).equals("digest") ? "long" : "int";
      for (Method method : WaterFibers.class.getDeclaredMethods()) {
        if (method.getName().equals(Face.name(promise))) {
          Checks.sameText("the answer of " + method.getName(), method.getReturnType().getName(), answer);
          for (Class<?> type : method.getParameterTypes()) {
            Checks.sameText("an argument of " + method.getName(), type.getName(), "int");
          }
        }
      }
    }
  }

  private void holdPart(String title, int first, int last) {
    StringBuilder calls = new StringBuilder();
    for (int promise = first; promise <= last; promise++) {
      calls.append(promise == first ? "`" : ", `").append(Face.name(promise)).append('`');
    }
    sentences.holdTerm(first, "Ahead of the calls " + calls + " the interface says: ---- " + title + ".",
        () -> standsAhead(title, first, last));
  }

  /** The title stands in the source, and these calls between it and the next, one behind the other. */
  private void standsAhead(String title, int first, int last) {
    String mark = "// ---- ";
    int from = source.indexOf(mark + title + " ");
    int next = source.indexOf(mark, from + 1);
    int to = next < 0 ? source.length() : next;
    Checks.yes("the title stands in the source", from >= 0);
    int behind = from;
    for (int promise = first; promise <= last; promise++) {
      int at = source.indexOf(Face.declaration(promise));
      Checks.yes(Face.name(promise) + " stands under the title, in order", at > behind && at < to);
      behind = at;
    }
  }
}
