import java.util.function.Consumer;
import java.util.function.Supplier;

/** Two clocks made alike: a call that changes nothing, made on the one alone, leaves it like the other. */
final class Twins {
  private static final int MORE_THAN_FITS = 20;

  private Twins() {
  }

  /** The call throws just this exception, and nothing has changed behind it. */
  static void refused(String what, Class<? extends RuntimeException> due,
      Supplier<WaterFibers> made, Consumer<WaterFibers> call) {
    WaterFibers asked = made.get();
    Checks.throwing(what, due, () -> call.accept(asked));
    stillAlike(what, asked, made.get());
  }

  /** The call answers, and nothing has changed behind it. */
  static void unchanged(String what, Supplier<WaterFibers> made, Consumer<WaterFibers> question) {
    WaterFibers asked = made.get();
    Checks.answers(what, () -> question.accept(asked));
    stillAlike(what, asked, made.get());
  }

  private static void stillAlike(String what, WaterFibers asked, WaterFibers left) {
    Checks.sameText(what + ", what there is then", Clocks.shown(asked), Clocks.shown(left));
    Checks.sameText(what + ", what comes then", future(asked), future(left));
  }

  /** What a clock answers as turns go by, and behind filling it up: so that what is hidden shows. */
  private static String future(WaterFibers clock) {
    StringBuilder text = new StringBuilder();
    for (int i = 0; i < 16; i++) {
      clock.run(1);
      text.append(clock.digest()).append(' ');
    }
    text.append(room(clock));
    for (int i = 0; i < 8; i++) {
      clock.run(3);
      text.append(' ').append(clock.digest());
    }
    return text.toString();
  }

  /** How often each call that adds something is answered, till it is refused. */
  private static String room(WaterFibers clock) {
    StringBuilder text = new StringBuilder();
    text.append(times(() -> clock.addChannel(1))).append(times(clock::addFiber));
    for (int i = 0; i < clock.fibers(); i++) {
      int fiber = i;
      text.append(' ').append(times(() -> clock.addStep(fiber, Clocks.GIVE_WAY, 0, 0)));
    }
    for (int i = 0; i < clock.channels(); i++) {
      int channel = i;
      text.append(' ').append(times(() -> clock.pour(channel, 1)));
    }
    return text.toString();
  }

  private static int times(Runnable call) {
    for (int i = 0; i < MORE_THAN_FITS; i++) {
      try {
        call.run();
      } catch (IllegalStateException full) {
        return i;
      }
    }
    return MORE_THAN_FITS;
  }
}
