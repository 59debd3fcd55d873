import java.lang.reflect.Constructor;
import java.lang.reflect.Field;
import java.lang.reflect.Method;
import java.lang.reflect.Modifier;
import java.util.TreeSet;

/** The class has the document's face and nothing else that can be seen from outside. */
final class FaceTests {
  public static void main(String[] args) {
    Class<?> face = WaterFibers.class;
    Checks.yes("the class is public and final",
        Modifier.isPublic(face.getModifiers()) && Modifier.isFinal(face.getModifiers()));
    Constructor<?>[] made = face.getDeclaredConstructors();
    Checks.yes("it has one public constructor without arguments",
        made.length == 1 && Modifier.isPublic(made[0].getModifiers()) && made[0].getParameterCount() == 0);
    for (Field field : face.getDeclaredFields()) {
      Checks.yes("the field " + field.getName() + " is private and final",
          Modifier.isPrivate(field.getModifiers()) && Modifier.isFinal(field.getModifiers()));
    }
    TreeSet<String> due = new TreeSet<>();
    for (int promise = Face.FIRST; promise <= Face.LAST; promise++) {
      due.add(Face.shown(promise));
    }
    TreeSet<String> got = new TreeSet<>();
    TreeSet<String> names = new TreeSet<>();
    for (Method method : face.getDeclaredMethods()) {
      if (Modifier.isPublic(method.getModifiers())) {
        got.add(Face.shown(method));
        names.add(method.getName());
      }
    }
    Checks.sameText("the public methods", got.toString(), due.toString());
    for (Method method : face.getDeclaredMethods()) {
      if (!Modifier.isPublic(method.getModifiers())) {
        Checks.yes("the method " + method.getName() + " is private",
            Modifier.isPrivate(method.getModifiers()));
        Checks.no("a private method is called " + method.getName(), names.contains(method.getName()));
      }
    }
    Checks.end("FaceTests");
  }
}
