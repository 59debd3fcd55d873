/** Counts what is not as it is due, and ends a test's program by it. */
final class Checks {
  /** Calls of the class under test that should throw. */
  interface Call {
    void make();
  }

  private static int made = 0;
  private static int wrong = 0;
  private static String under = "";

  private Checks() {
  }

  /** The words go ahead of all that the next checks print. */
  static void under(String words) {
    under = words;
  }

  static int made() {
    return made;
  }

  static void same(String what, long got, long due) {
    sameText(what, String.valueOf(got), String.valueOf(due));
  }

  static void sameText(String what, String got, String due) {
    made++;
    if (!got.equals(due)) {
      wrong++;
      System.out.println(under + what + " answered " + got + ", due is " + due);
    }
  }

  /** The very same double is due; 0 and -0 are not the same. */
  static void sameMean(String what, double got, double due) {
    sameText(what, String.valueOf(got), String.valueOf(due));
  }

  static void yes(String what, boolean got) {
    same(what, got ? 1 : 0, 1);
  }

  static void no(String what, boolean got) {
    same(what, got ? 1 : 0, 0);
  }

  /** The very class of the exception is due, and no class below it. */
  static void throwing(String what, Class<? extends RuntimeException> due, Call call) {
    sameText(what + " throws", thrownBy(call), due.getName());
  }

  static void answers(String what, Call call) {
    sameText(what + " throws", thrownBy(call), "nothing");
  }

  private static String thrownBy(Call call) {
    try {
      call.make();
    } catch (RuntimeException e) {
      return e.getClass().getName();
    }
    return "nothing";
  }

  static void noSuchIndex(String what, Call call) {
    throwing(what, IndexOutOfBoundsException.class, call);
  }

  static void wrongArgument(String what, Call call) {
    throwing(what, IllegalArgumentException.class, call);
  }

  static void wrongState(String what, Call call) {
    throwing(what, IllegalStateException.class, call);
  }

  static void end(String name) {
    System.out.println(name + ": " + (made - wrong) + " checks are as due, " + wrong + " are not");
    if (wrong != 0 || made == 0) {
      System.exit(1);
    }
  }
}
