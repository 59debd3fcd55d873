/** Counts what is not as it is due, and ends a test's program by it. */
final class Checks {
  /** Calls of the class under test that should throw. */
  interface Call {
    void make();
  }

  private static int made = 0;
  private static int wrong = 0;

  private Checks() {
  }

  static void same(String what, long got, long due) {
    made++;
    if (got != due) {
      wrong++;
      System.out.println(what + " answered " + got + ", due is " + due);
    }
  }

  static void sameText(String what, String got, String due) {
    made++;
    if (!got.equals(due)) {
      wrong++;
      System.out.println(what + " answered " + got + ", due is " + due);
    }
  }

  static void sameMean(String what, double got, double due) {
    made++;
    if (got != due) {
      wrong++;
      System.out.println(what + " answered " + got + ", due is " + due);
    }
  }

  static void yes(String what, boolean got) {
    same(what, got ? 1 : 0, 1);
  }

  static void no(String what, boolean got) {
    same(what, got ? 1 : 0, 0);
  }

  /** The very class of the exception is due, and no class below it. */
  static void throwing(String what, Class<? extends RuntimeException> due, Call call) {
    String got = "nothing";
    try {
      call.make();
    } catch (RuntimeException e) {
      got = e.getClass().getName();
    }
    sameText(what + " throws", got, due.getName());
  }

  static void noSuchIndex(String what, Call call) {
    throwing(what, IndexOutOfBoundsException.class, call);
  }

  static void wrongArgument(String what, Call call) {
    throwing(what, IllegalArgumentException.class, call);
  }

  static void wrongState(String what, Call call) {
    throwing(what, IllegalStateException.class, call);
  }

  static void end(String name) {
    System.out.println(name + ": " + (made - wrong) + " checks are as due, " + wrong + " are not");
    if (wrong != 0 || made == 0) {
      System.exit(1);
    }
  }
}
