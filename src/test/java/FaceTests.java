import java.lang.reflect.Constructor;
import java.lang.reflect.Field;
import java.lang.reflect.Method;
import java.lang.reflect.Modifier;
import java.util.TreeSet;

/** The class has the document's face and nothing else that can be seen from outside. */
final class FaceTests {
  private static final String[] FACE = {
    "int addChannel(int)", "int addFiber()", "int addStep(int, int, int, int)", "int pour(int, int)",
    "int run(int)", "int time()", "int channels()", "int fibers()", "int done()", "int idleTurns()",
    "int next()", "boolean isStuck()", "int held(int)", "int valueAt(int, int)", "int sendersAt(int)",
    "int takersAt(int)", "int stateOf(int)", "int placeOf(int)", "int sumOf(int)", "int stepsDone(int)",
    "int turnsOf(int)", "int placeInLine(int)", "int turnsUntilDone(int)", "int turnsUntilStuck()",
    "int sumIn(int, int)", "int placesWanted(int)", "double meanTurns()", "long digest()",
  };

  public static void main(String[] args) {
    Class<?> face = WaterFibers.class;
    Checks.yes("the class is public and final",
        Modifier.isPublic(face.getModifiers()) && Modifier.isFinal(face.getModifiers()));
    Constructor<?>[] made = face.getDeclaredConstructors();
    Checks.yes("it has one public constructor without arguments",
        made.length == 1 && Modifier.isPublic(made[0].getModifiers()) && made[0].getParameterCount() == 0);
    for (Field field : face.getDeclaredFields()) {
      Checks.yes("the field " + field.getName() + " is private and final",
          Modifier.isPrivate(field.getModifiers()) && Modifier.isFinal(field.getModifiers()));
    }
    TreeSet<String> due = new TreeSet<>(java.util.Arrays.asList(FACE));
    TreeSet<String> got = new TreeSet<>();
    TreeSet<String> names = new TreeSet<>();
    for (Method method : face.getDeclaredMethods()) {
      if (Modifier.isPublic(method.getModifiers())) {
        got.add(shown(method));
        names.add(method.getName());
      }
    }
    Checks.sameText("the public methods", got.toString(), due.toString());
    for (Method method : face.getDeclaredMethods()) {
      if (!Modifier.isPublic(method.getModifiers())) {
        Checks.yes("the method " + method.getName() + " is private",
            Modifier.isPrivate(method.getModifiers()));
        Checks.no("a private method is called " + method.getName(), names.contains(method.getName()));
      }
    }
    Checks.end("FaceTests");
  }

  private static String shown(Method method) {
    StringBuilder text = new StringBuilder();
    text.append(method.getReturnType().getName()).append(' ').append(method.getName()).append('(');
    for (int i = 0; i < method.getParameterCount(); i++) {
      text.append(i == 0 ? "" : ", ").append(method.getParameterTypes()[i].getName());
    }
    return text.append(')').toString();
  }
}
