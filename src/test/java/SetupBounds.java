/** The sentences of promises 1 to 6 that name a boundary case. */
final class SetupBounds {
  private static final Class<IndexOutOfBoundsException> INDEX = IndexOutOfBoundsException.class;
  private static final Class<IllegalArgumentException> ARGUMENT = IllegalArgumentException.class;
  private static final Class<IllegalStateException> STATE = IllegalStateException.class;

  private SetupBounds() {
  }

  static void hold(Sentences sentences) {
    sentences.hold(1, "Creates a clock without channels and fibers, at the time 0.",
        SetupBounds::newClock);
    sentences.hold(2, "Returns its number.", SetupBounds::channelNumbers);
    sentences.hold(2, "Throws `IllegalArgumentException` if places is not 1 to 4",
        SetupBounds::placesOneToFour);
    sentences.hold(2, "Throws `IllegalStateException` if there are 4", SetupBounds::fourChannels);
    sentences.hold(3, "Returns the number of a new fiber, without steps.",
        SetupBounds::fiberNumbers);
    sentences.hold(3, "Throws `IllegalStateException` if there are 8", SetupBounds::eightFibers);
    holdAddStep(sentences);
    sentences.hold(5, "Pours a drop into a channel by hand, as if it was sent.",
        SetupBounds::pourIsAsIfSent);
    sentences.hold(5, "Returns how many it holds then.", SetupBounds::heldThen);
    sentences.hold(5, Sentences.NO_CHANNEL, SetupBounds::pourIntoNoChannel);
    sentences.hold(5, "Throws `IllegalArgumentException` if value is not -999 to 999",
        SetupBounds::valuesPoured);
    sentences.hold(5, "Throws `IllegalStateException` if it has no room", SetupBounds::noRoom);
    sentences.hold(6, "Lets turns go by.", SetupBounds::turnsGoBy);
    sentences.hold(6, "Returns how many of them are idle.", SetupBounds::idleOfThem);
    sentences.hold(6, "Throws `IllegalArgumentException` if turns is not 1 to 60",
        SetupBounds::turnsOneToSixty);
  }

  private static void holdAddStep(Sentences sentences) {
    sentences.hold(4, "Adds a step behind the others of a fiber", SetupBounds::stepsInOrder);
    sentences.hold(4, "one that was done is ready then.", SetupBounds::doneIsReadyThen);
    sentences.hold(4, "Returns the number of the step.", SetupBounds::stepNumbers);
    sentences.hold(4, Sentences.NO_FIBER, SetupBounds::stepOfNoFiber);
    sentences.hold(4, "Throws `IllegalArgumentException` if kind is not 0 to 6",
        SetupBounds::kindsZeroToSix);
    sentences.hold(4, "or, by the kind:", SetupBounds::numbersByTheKind);
    sentences.hold(4, "one is not a channel (0, 1, 6)", SetupBounds::channelsOfSteps);
    sentences.hold(4, "not 1 to 20 (2)", SetupBounds::turnsOfSleep);
    sentences.hold(4, "not a fiber, or this one itself (4)", SetupBounds::fibersOfSteps);
    sentences.hold(4, "not 0 to the number of the step (5)", SetupBounds::stepsOfGoingBack);
    sentences.hold(4, "or two is not -999 to 999 (0)", SetupBounds::valuesOfSteps);
    sentences.hold(4, "or not 1 to 9 (5)", SetupBounds::timesOfGoingBack);
    sentences.hold(4, "Throws `IllegalStateException` if it has 12", SetupBounds::twelveSteps);
  }

  private static void newClock() {
    WaterFibers clock = new WaterFibers();
    int[] answers = {0, 0, 0, 0, 0, -1, 0};
    for (int question = Calls.TIME; question <= Calls.IS_STUCK; question++) {
      Checks.same("the question " + question, Calls.make(clock, new int[] {question, 0, 0, 0, 0}),
          answers[question - Calls.TIME]);
    }
    for (int question = Calls.HELD; question < Calls.MEAN_TURNS; question++) {
      int[] call = {question, 0, 1, 0, 0};
      if (question != Calls.TURNS_UNTIL_STUCK) {
        Checks.noSuchIndex("the question " + question + " of 0", () -> Calls.make(clock, call));
      }
    }
    Checks.noSuchIndex("addStep(0, 3, 0, 0)", () -> clock.addStep(0, Clocks.GIVE_WAY, 0, 0));
    Checks.noSuchIndex("pour(0, 0)", () -> clock.pour(0, 0));
    Checks.same("turnsUntilStuck()", clock.turnsUntilStuck(), -1);
    Checks.sameMean("meanTurns()", clock.meanTurns(), 0);
    WaterFibers other = Clocks.full();
    other.run(3);
    Checks.sameText("beside a full one", Clocks.shown(clock), Clocks.shown(new WaterFibers()));
  }

  private static void channelNumbers() {
    WaterFibers clock = new WaterFibers();
    for (int number = 0; number < 4; number++) {
      Checks.wrongArgument("addChannel(5)", () -> clock.addChannel(5));
      Checks.same("addChannel(4)", clock.addChannel(4), number);
      clock.run(1);
      clock.addFiber();
    }
  }

  private static void placesOneToFour() {
    for (int places : Bounds.outside(1, 4)) {
      Twins.refused("addChannel(" + places + ")", ARGUMENT, Clocks::busy,
          clock -> clock.addChannel(places));
    }
    for (int places = 1; places <= 4; places++) {
      WaterFibers clock = Clocks.busy();
      Checks.same("addChannel(" + places + ")", clock.addChannel(places), 3);
      Checks.same("held(3)", clock.held(3), 0);
      for (int drops = 1; drops <= places; drops++) {
        Checks.same("pour(3, 0)", clock.pour(3, 0), drops);
      }
      Checks.wrongState("pour(3, 0)", () -> clock.pour(3, 0));
    }
  }

  private static void fourChannels() {
    for (int count = 0; count <= 4; count++) {
      int channels = count;
      if (count < 4) {
        Checks.same("addChannel(1) behind " + count, Clocks.sized(2, count).addChannel(1), count);
      } else {
        Twins.refused("addChannel(1) behind 4", STATE, () -> Clocks.sized(2, channels),
            clock -> clock.addChannel(1));
        Twins.refused("addChannel(4) behind 4", STATE, () -> Clocks.sized(0, channels),
            clock -> clock.addChannel(4));
      }
    }
  }

  private static void fiberNumbers() {
    WaterFibers clock = new WaterFibers();
    for (int number = 0; number < 8; number++) {
      Checks.same("addFiber()", clock.addFiber(), number);
      Checks.same("without steps it is done", clock.stateOf(number), Clocks.DONE);
      Checks.same("the number of its first step", clock.addStep(number, Clocks.SLEEP, 9, 0), 0);
      clock.run(1);
    }
  }

  private static void eightFibers() {
    for (int count = 0; count < 8; count++) {
      Checks.same("addFiber() behind " + count, Clocks.sized(count, 1).addFiber(), count);
    }
    Twins.refused("addFiber() behind 8", STATE, () -> Clocks.sized(8, 1), WaterFibers::addFiber);
    Twins.refused("addFiber() behind 8 that are done", STATE, () -> Clocks.of(8),
        WaterFibers::addFiber);
  }

  private static void stepsInOrder() {
    WaterFibers clock = Clocks.of(2, 4, 4);
    for (int step = 0; step < 12; step++) {
      clock.addStep(0, step < 8 ? Clocks.SEND : Clocks.GIVE_WAY, step % 2, step);
      clock.addStep(1, Clocks.GIVE_WAY, 0, 0);
    }
    clock.run(20);
    Checks.sameText("the drops of 0", Clocks.drops(clock, 0), "0 2 4 6");
    Checks.sameText("the drops of 1", Clocks.drops(clock, 1), "1 3 5 7");
    Checks.same("the steps of 0", clock.stepsDone(0), 12);
  }

  private static void doneIsReadyThen() {
    for (int fiber = 0; fiber < 7; fiber++) {
      WaterFibers clock = Clocks.busy();
      int state = clock.stateOf(fiber);
      clock.addStep(fiber, Clocks.GIVE_WAY, 0, 0);
      Checks.same("one in the state " + state, clock.stateOf(fiber),
          state == Clocks.DONE ? Clocks.READY : state);
      Checks.sameText("the line", Clocks.line(clock), state == Clocks.DONE ? "56" : "5");
    }
    WaterFibers clock = Clocks.of(1);
    for (int step = 0; step < 12; step++) {
      clock.addStep(0, Clocks.GIVE_WAY, 0, 0);
      Checks.same("ready by the step " + step, clock.next(), 0);
      clock.run(1);
      Checks.same("done behind the step " + step, clock.stateOf(0), Clocks.DONE);
      Checks.same("its place", clock.placeOf(0), step + 1);
    }
  }

  private static void stepNumbers() {
    WaterFibers clock = Clocks.of(2);
    for (int step = 0; step < 12; step++) {
      Checks.wrongArgument("addStep(1, 7, 0, 0)", () -> clock.addStep(1, 7, 0, 0));
      Checks.same("addStep(1, 3, 0, 0)", clock.addStep(1, Clocks.GIVE_WAY, 0, 0), step);
    }
    Checks.same("addStep(0, 3, 0, 0)", clock.addStep(0, Clocks.GIVE_WAY, 0, 0), 0);
  }

  private static void stepOfNoFiber() {
    for (int count : new int[] {0, 1, 7, 8}) {
      for (int fiber : Bounds.outside(0, count - 1)) {
        Twins.refused("addStep(" + fiber + ", 3, 0, 0) of " + count, INDEX,
            () -> Clocks.sized(count, 1), clock -> clock.addStep(fiber, Clocks.GIVE_WAY, 0, 0));
      }
      for (int fiber = 0; fiber < count; fiber++) {
        Checks.same("addStep(" + fiber + ", 3, 0, 0) of " + count,
            Clocks.sized(count, 1).addStep(fiber, Clocks.GIVE_WAY, 0, 0), 2);
      }
    }
  }

  private static void wrongStep(int fiber, int kind, int one, int two) {
    Twins.refused("addStep(" + fiber + ", " + kind + ", " + one + ", " + two + ")", ARGUMENT,
        Clocks::busy, clock -> clock.addStep(fiber, kind, one, two));
  }

  private static void rightStep(int fiber, int kind, int one, int two, int number) {
    Checks.same("addStep(" + fiber + ", " + kind + ", " + one + ", " + two + ")",
        Clocks.busy().addStep(fiber, kind, one, two), number);
  }

  private static void kindsZeroToSix() {
    for (int kind : Bounds.outside(0, 6)) {
      wrongStep(0, kind, 1, 1);
      wrongStep(6, kind, 0, 1);
    }
    for (int kind = 0; kind <= 6; kind++) {
      rightStep(0, kind, 1, 1, 2);
    }
  }

  /** With 3 channels, 7 fibers, and 4 steps of the fiber 3: what is right for one kind alone. */
  private static void numbersByTheKind() {
    int[][] right = {
      {Clocks.SEND, 2, 999}, {Clocks.TAKE, 2, 1000}, {Clocks.SLEEP, 20, 1000},
      {Clocks.GIVE_WAY, 1000, 1000}, {Clocks.WAIT_FOR, 6, 1000}, {Clocks.GO_BACK, 4, 9},
      {Clocks.SEND_SUM, 2, 1000},
    };
    for (int[] step : right) {
      rightStep(3, step[0], step[1], step[2], 4);
    }
    int[][] wrong = {
      {Clocks.SEND, 2, 1000}, {Clocks.SEND, 4, 9}, {Clocks.TAKE, 6, 1}, {Clocks.SLEEP, 0, 1},
      {Clocks.WAIT_FOR, 20, 1}, {Clocks.WAIT_FOR, 3, 1}, {Clocks.GO_BACK, 6, 1},
      {Clocks.GO_BACK, 4, 999}, {Clocks.SEND_SUM, 4, 9},
    };
    for (int[] step : wrong) {
      wrongStep(3, step[0], step[1], step[2]);
    }
  }

  private static void channelsOfSteps() {
    for (int kind : new int[] {Clocks.SEND, Clocks.TAKE, Clocks.SEND_SUM}) {
      for (int channel : Bounds.outside(0, 2)) {
        wrongStep(3, kind, channel, 0);
      }
      for (int channel = 0; channel <= 2; channel++) {
        rightStep(3, kind, channel, 0, 4);
      }
      for (int count : new int[] {0, 1, 4}) {
        WaterFibers clock = Clocks.sized(1, count);
        for (int channel : Bounds.outside(0, count - 1)) {
          Checks.wrongArgument("the kind " + kind + ", " + channel + " of " + count,
              () -> clock.addStep(0, kind, channel, 0));
        }
        for (int channel = 0; channel < count; channel++) {
          Checks.same("the kind " + kind + ", " + channel + " of " + count,
              clock.addStep(0, kind, channel, 0), 2 + channel);
        }
      }
    }
  }

  private static void turnsOfSleep() {
    for (int turns : Bounds.outside(1, 20)) {
      wrongStep(6, Clocks.SLEEP, turns, 1);
    }
    for (int turns = 1; turns <= 20; turns++) {
      rightStep(6, Clocks.SLEEP, turns, 1, 0);
    }
  }

  private static void fibersOfSteps() {
    for (int fiber : new int[] {0, 3, 6}) {
      for (int other : Bounds.outside(0, 6)) {
        wrongStep(fiber, Clocks.WAIT_FOR, other, 1);
      }
      wrongStep(fiber, Clocks.WAIT_FOR, fiber, 1);
      for (int other = 0; other <= 6; other++) {
        if (other != fiber) {
          rightStep(fiber, Clocks.WAIT_FOR, other, 1, fiber == 0 ? 2 : fiber == 3 ? 4 : 0);
        }
      }
    }
    Checks.wrongArgument("alone, itself",
        () -> Clocks.of(1).addStep(0, Clocks.WAIT_FOR, 0, 0));
    WaterFibers eight = Clocks.of(8);
    Checks.wrongArgument("7 itself of 8", () -> eight.addStep(7, Clocks.WAIT_FOR, 7, 0));
    Checks.wrongArgument("8 of 8", () -> eight.addStep(7, Clocks.WAIT_FOR, 8, 0));
    Checks.same("7 of 8", eight.addStep(0, Clocks.WAIT_FOR, 7, 0), 0);
    Checks.same("0 of 8", eight.addStep(7, Clocks.WAIT_FOR, 0, 0), 0);
  }

  private static void stepsOfGoingBack() {
    int[] numbers = {2, 2, 1, 4, 2, 3, 0};
    for (int fiber = 0; fiber < 7; fiber++) {
      for (int to : Bounds.outside(0, numbers[fiber])) {
        wrongStep(fiber, Clocks.GO_BACK, to, 1);
      }
      for (int to = 0; to <= numbers[fiber]; to++) {
        rightStep(fiber, Clocks.GO_BACK, to, 1, numbers[fiber]);
      }
    }
    WaterFibers clock = Clocks.of(1);
    for (int step = 0; step < 12; step++) {
      int next = step + 1;
      Checks.wrongArgument("back to " + next + " by the step " + step,
          () -> clock.addStep(0, Clocks.GO_BACK, next, 1));
      Checks.same("back to " + step, clock.addStep(0, Clocks.GO_BACK, step, 1), step);
    }
  }

  private static void valuesOfSteps() {
    for (int value : Bounds.outside(-999, 999)) {
      wrongStep(6, Clocks.SEND, 0, value);
    }
    for (int value : new int[] {-999, -998, 0, 998, 999}) {
      rightStep(6, Clocks.SEND, 0, value, 0);
    }
  }

  private static void timesOfGoingBack() {
    for (int times : Bounds.outside(1, 9)) {
      wrongStep(6, Clocks.GO_BACK, 0, times);
    }
    for (int times = 1; times <= 9; times++) {
      rightStep(6, Clocks.GO_BACK, 0, times, 0);
    }
  }

  private static void twelveSteps() {
    for (int count = 0; count <= 12; count++) {
      int steps = count;
      if (count < 12) {
        Checks.same("a step behind " + count, withSteps(count).addStep(0, Clocks.SLEEP, 1, 0), count);
      } else {
        for (int kind = 0; kind <= 6; kind++) {
          int number = kind;
          Twins.refused("the kind " + kind + " behind 12", STATE, () -> withSteps(steps),
              clock -> clock.addStep(0, number, 1, 1));
        }
        Twins.refused("back to itself behind 12", STATE, () -> withSteps(steps),
            clock -> clock.addStep(0, Clocks.GO_BACK, 12, 9));
      }
    }
  }

  private static WaterFibers withSteps(int count) {
    WaterFibers clock = Clocks.of(2, 1, 2);
    for (int step = 0; step < count; step++) {
      clock.addStep(0, Clocks.GIVE_WAY, 0, 0);
    }
    return clock;
  }

  private static void pourIsAsIfSent() {
    WaterFibers poured = Clocks.busy();
    WaterFibers sent = Clocks.busy();
    Checks.same("pour(2, -999)", poured.pour(2, -999), 1);
    Clocks.steps(sent, 6, Clocks.SEND, 2, -999);
    sent.run(2);
    Checks.sameText("the drops", Clocks.drops(sent, 2), Clocks.drops(poured, 2));
    Checks.same("one of two is woken by a drop that is sent", sent.takersAt(2), 1);
    Checks.same("and by one that is poured", poured.takersAt(2), 1);
    Checks.sameText("the line behind pour", Clocks.line(poured), "51");
    Checks.same("no turn goes by", poured.time(), 8);
    Checks.same("pour(1, 1), where none waits", poured.pour(1, 1), 2);
    Checks.sameText("the line as before", Clocks.line(poured), "51");
  }

  private static void heldThen() {
    for (int places = 1; places <= 4; places++) {
      WaterFibers clock = Clocks.of(1, places);
      for (int drops = 1; drops <= places; drops++) {
        Checks.same("pour into " + places + " places", clock.pour(0, 5), drops);
      }
      Clocks.steps(clock, 0, Clocks.TAKE, 0, 0);
      clock.run(1);
      Checks.same("pour behind a take, into " + places, clock.pour(0, 5), places);
    }
  }

  private static void pourIntoNoChannel() {
    for (int count : new int[] {0, 1, 3, 4}) {
      for (int channel : Bounds.outside(0, count - 1)) {
        Twins.refused("pour(" + channel + ", 1) of " + count, INDEX, () -> Clocks.sized(3, count),
            clock -> clock.pour(channel, 1));
      }
      for (int channel = 1; channel < count; channel++) {
        Checks.same("pour(" + channel + ", 1) of " + count,
            Clocks.sized(3, count).pour(channel, 1), 2);
      }
    }
  }

  private static void valuesPoured() {
    for (int value : Bounds.outside(-999, 999)) {
      Twins.refused("pour(1, " + value + ")", ARGUMENT, Clocks::busy, clock -> clock.pour(1, value));
      Twins.refused("pour(2, " + value + ")", ARGUMENT, Clocks::busy, clock -> clock.pour(2, value));
    }
    for (int value : new int[] {-999, -998, 0, 998, 999}) {
      WaterFibers clock = Clocks.busy();
      Checks.same("pour(1, " + value + ")", clock.pour(1, value), 2);
      Checks.same("valueAt(1, 1)", clock.valueAt(1, 1), value);
    }
  }

  private static void noRoom() {
    for (int channel = 0; channel < 4; channel++) {
      int number = channel;
      for (int value : new int[] {-999, 0, 999}) {
        Twins.refused("pour(" + channel + ", " + value + "), full", STATE, Clocks::full,
            clock -> clock.pour(number, value));
      }
      WaterFibers clock = Clocks.full();
      clock.run(1);
      Checks.same("pour behind a take", clock.pour(channel, 0), channel + 1);
    }
  }

  private static void turnsGoBy() {
    for (int turns : new int[] {1, 2, 59, 60}) {
      WaterFibers at = Clocks.busy();
      WaterFibers single = Clocks.busy();
      at.run(turns);
      for (int turn = 0; turn < turns; turn++) {
        single.run(1);
      }
      Checks.same("time() behind " + turns, at.time(), 8 + turns);
      Checks.sameText("run(" + turns + ") is " + turns + " times run(1)", Clocks.shown(at),
          Clocks.shown(single));
    }
  }

  private static void idleOfThem() {
    for (int asleep = 0; asleep <= 20; asleep++) {
      WaterFibers clock = Clocks.of(1);
      clock.run(7);
      if (asleep > 0) {
        clock.addStep(0, Clocks.SLEEP, asleep, 0);
      }
      int turns = asleep > 0 ? 2 : 0;
      Checks.same("run(60), asleep for " + asleep, clock.run(60), 60 - turns);
      Checks.same("run(1) then", clock.run(1), 1);
      Checks.same("idleTurns()", clock.idleTurns(), 68 - turns);
    }
    WaterFibers never = Clocks.of(1);
    Clocks.steps(never, 0, Clocks.GIVE_WAY, 0, 0, Clocks.GO_BACK, 0, 9, Clocks.GO_BACK, 0, 9);
    Checks.same("run(1), none of it idle", never.run(1), 0);
    Checks.same("run(60), none of them idle", never.run(60), 0);
  }

  private static void turnsOneToSixty() {
    for (int turns : Bounds.outside(1, 60)) {
      Twins.refused("run(" + turns + ")", ARGUMENT, Clocks::busy, clock -> clock.run(turns));
    }
    for (int turns : new int[] {1, 2, 59, 60}) {
      WaterFibers clock = new WaterFibers();
      Checks.same("run(" + turns + ")", clock.run(turns), turns);
      Checks.same("time()", clock.time(), turns);
    }
  }
}
