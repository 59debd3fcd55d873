import java.util.function.Consumer;
import java.util.function.Supplier;

/** The sentences of "Terms" about exceptions: nothing changes, and the one named first is thrown. */
final class RefusalBounds {
  private static final Class<IndexOutOfBoundsException> INDEX = IndexOutOfBoundsException.class;
  private static final Class<IllegalArgumentException> ARGUMENT = IllegalArgumentException.class;
  private static final Class<IllegalStateException> STATE = IllegalStateException.class;

  private RefusalBounds() {
  }

  static void hold(Sentences sentences) {
    String unchanged = "A method that throws an exception changes nothing.";
    String first = "If several exceptions apply, the one that is named first is thrown.";
    sentences.holdTerm(1, unchanged, RefusalBounds::theStartsAreAsTold);
    sentences.holdTerm(2, unchanged, RefusalBounds::addChannelChangesNothing);
    sentences.holdTerm(3, unchanged, RefusalBounds::addFiberChangesNothing);
    sentences.holdTerm(4, unchanged, RefusalBounds::addStepChangesNothing);
    sentences.holdTerm(5, unchanged, RefusalBounds::pourChangesNothing);
    sentences.holdTerm(6, unchanged, RefusalBounds::runChangesNothing);
    sentences.holdTerm(24, unchanged, RefusalBounds::questionsChangeNothing);
    sentences.holdTerm(2, first, RefusalBounds::addChannelNamedFirst);
    sentences.holdTerm(4, first, RefusalBounds::addStepIndexNamedFirst);
    sentences.holdTerm(4, first, RefusalBounds::addStepArgumentNamedFirst);
    sentences.holdTerm(5, first, RefusalBounds::pourNamedFirst);
    sentences.holdTerm(26, first, RefusalBounds::sumInNamedFirst);
  }

  private static void refused(String what, Class<? extends RuntimeException> due,
      Supplier<WaterFibers> made, Consumer<WaterFibers> call) {
    Twins.refused(what, due, made, call);
  }

  /** What the tests of refused calls start from. */
  private static void theStartsAreAsTold() {
    WaterFibers busy = Clocks.busy();
    Checks.sameText("busy: states", Clocks.states(busy), "1223405");
    Checks.sameText("busy: drops", Clocks.drops(busy, 0) + "/" + Clocks.drops(busy, 1) + "/"
        + Clocks.drops(busy, 2), "7/8/");
    Checks.sameText("busy: the line", Clocks.line(busy), "5");
    WaterFibers full = Clocks.full();
    Checks.same("full: channels()", full.channels(), 4);
    Checks.same("full: fibers()", full.fibers(), 8);
    Checks.sameText("full: states", Clocks.states(full), "00000000");
    Checks.sameText("full: the last drops", Clocks.drops(full, 3), "30 31 32 33");
  }

  private static void addChannelChangesNothing() {
    for (int places : Bounds.outside(1, 4)) {
      refused("addChannel(" + places + "), new", ARGUMENT, WaterFibers::new,
          clock -> clock.addChannel(places));
      refused("addChannel(" + places + "), busy", ARGUMENT, Clocks::busy,
          clock -> clock.addChannel(places));
    }
    for (int places = 1; places <= 4; places++) {
      int number = places;
      refused("addChannel(" + places + "), full", STATE, Clocks::full,
          clock -> clock.addChannel(number));
    }
  }

  private static void addFiberChangesNothing() {
    refused("addFiber(), full", STATE, Clocks::full, WaterFibers::addFiber);
    refused("addFiber(), 8 without steps", STATE, () -> Clocks.of(8), WaterFibers::addFiber);
  }

  private static void addStepChangesNothing() {
    for (int fiber = 0; fiber < 7; fiber++) {
      int number = fiber;
      refused("addStep(" + fiber + ", 7, 0, 0), busy", ARGUMENT, Clocks::busy,
          clock -> clock.addStep(number, 7, 0, 0));
      refused("addStep(" + fiber + ", 0, 0, 1000), busy", ARGUMENT, Clocks::busy,
          clock -> clock.addStep(number, Clocks.SEND, 0, 1000));
      refused("addStep(" + fiber + ", 3, 0, 0), full", STATE, Clocks::full,
          clock -> clock.addStep(number, Clocks.GIVE_WAY, 0, 0));
    }
    refused("addStep(7, 3, 0, 0), busy", INDEX, Clocks::busy,
        clock -> clock.addStep(7, Clocks.GIVE_WAY, 0, 0));
    refused("addStep(0, 3, 0, 0), 12 that are done", STATE, RefusalBounds::twelveDone,
        clock -> clock.addStep(0, Clocks.GIVE_WAY, 0, 0));
  }

  private static WaterFibers twelveDone() {
    WaterFibers clock = Clocks.of(1, 1);
    for (int step = 0; step < 12; step++) {
      clock.addStep(0, Clocks.GIVE_WAY, 0, 0);
    }
    clock.run(12);
    return clock;
  }

  private static void pourChangesNothing() {
    refused("pour(3, 1), busy", INDEX, Clocks::busy, clock -> clock.pour(3, 1));
    refused("pour(2, 1000) where two wait, busy", ARGUMENT, Clocks::busy,
        clock -> clock.pour(2, 1000));
    refused("pour(2, -1000) where two wait, busy", ARGUMENT, Clocks::busy,
        clock -> clock.pour(2, -1000));
    refused("pour(0, 1), busy", STATE, Clocks::busy, clock -> clock.pour(0, 1));
    for (int channel = 0; channel < 4; channel++) {
      int number = channel;
      refused("pour(" + channel + ", 1), full", STATE, Clocks::full, clock -> clock.pour(number, 1));
    }
  }

  private static void runChangesNothing() {
    for (int turns : Bounds.outside(1, 60)) {
      refused("run(" + turns + "), new", ARGUMENT, WaterFibers::new, clock -> clock.run(turns));
      refused("run(" + turns + "), busy", ARGUMENT, Clocks::busy, clock -> clock.run(turns));
      refused("run(" + turns + "), full", ARGUMENT, Clocks::full, clock -> clock.run(turns));
    }
  }

  private static void questionsChangeNothing() {
    for (int question = Calls.TIME; question <= Calls.DIGEST; question++) {
      int number = question;
      if (!Calls.asksChannel(question) && !Calls.asksFiber(question)) {
        continue;
      }
      for (int index : new int[] {-1, 7, 8}) {
        refused("the question " + question + " of " + index + ", busy", INDEX, Clocks::busy,
            clock -> Calls.make(clock, new int[] {number, index, 1, 0, 0}));
      }
    }
    refused("sumIn(0, 61), busy", ARGUMENT, Clocks::busy, clock -> clock.sumIn(0, 61));
    refused("valueAt(1, 1), busy", INDEX, Clocks::busy, clock -> clock.valueAt(1, 1));
  }

  private static void addChannelNamedFirst() {
    for (int places : Bounds.outside(1, 4)) {
      refused("addChannel(" + places + "), full", ARGUMENT, Clocks::full,
          clock -> clock.addChannel(places));
    }
  }

  private static void addStepIndexNamedFirst() {
    int[][] wrong = {{-1, 0, 0}, {7, 0, 0}, {0, 4, 0}, {0, 0, 1000}, {2, 21, 0}, {4, 8, 0}, {5, 13, 1}};
    for (int fiber : Bounds.outside(0, 7)) {
      refused("addStep(" + fiber + ", 3, 0, 0), full", INDEX, Clocks::full,
          clock -> clock.addStep(fiber, Clocks.GIVE_WAY, 0, 0));
      for (int[] step : wrong) {
        refused("addStep(" + fiber + ", " + step[0] + ", " + step[1] + ", " + step[2] + "), full",
            INDEX, Clocks::full, clock -> clock.addStep(fiber, step[0], step[1], step[2]));
      }
    }
  }

  private static void addStepArgumentNamedFirst() {
    int[][] wrong = {
      {-1, 0, 0}, {7, 0, 0}, {0, 4, 0}, {0, -1, 0}, {0, 0, 1000}, {0, 0, -1000}, {1, 4, 0}, {1, -1, 0},
      {2, 0, 0}, {2, 21, 0}, {4, 0, 0}, {4, 8, 0}, {4, -1, 0}, {5, 13, 1}, {5, -1, 1}, {5, 0, 0},
      {5, 0, 10}, {6, 4, 0}, {6, -1, 0},
    };
    for (int[] step : wrong) {
      refused("addStep(0, " + step[0] + ", " + step[1] + ", " + step[2] + "), full", ARGUMENT,
          Clocks::full, clock -> clock.addStep(0, step[0], step[1], step[2]));
    }
  }

  private static void pourNamedFirst() {
    for (int channel : Bounds.outside(0, 3)) {
      for (int value : Bounds.outside(-999, 999)) {
        refused("pour(" + channel + ", " + value + "), full", INDEX, Clocks::full,
            clock -> clock.pour(channel, value));
      }
    }
    for (int value : Bounds.outside(-999, 999)) {
      refused("pour(0, " + value + "), full", ARGUMENT, Clocks::full,
          clock -> clock.pour(0, value));
    }
  }

  private static void sumInNamedFirst() {
    for (int fiber : Bounds.outside(0, 7)) {
      for (int turns : Bounds.outside(1, 60)) {
        refused("sumIn(" + fiber + ", " + turns + "), full", INDEX, Clocks::full,
            clock -> clock.sumIn(fiber, turns));
      }
    }
  }
}
