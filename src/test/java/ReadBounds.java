/** The sentences of promises 7 to 23 that name a boundary case. */
final class ReadBounds {
  private ReadBounds() {
  }

  static void hold(Sentences sentences) {
    sentences.hold(7, "Returns the time.", ReadBounds::time);
    sentences.hold(8, "Returns how many channels there are.", ReadBounds::channels);
    sentences.hold(9, "Returns how many fibers there are.", ReadBounds::fibers);
    sentences.hold(10, "Returns how many fibers are done.", ReadBounds::done);
    sentences.hold(11, "Returns how many turns were idle.", ReadBounds::idleTurns);
    sentences.hold(12, "Returns the first fiber of the line", ReadBounds::next);
    sentences.hold(12, "-1 if it is empty.", ReadBounds::nextOfAnEmptyLine);
    sentences.hold(13, "Returns whether no fiber is ready or sleeps", ReadBounds::noneIsReadyOrSleeps);
    sentences.hold(13, "and not all are done.", ReadBounds::notAllAreDone);
    holdChannels(sentences);
    holdFibers(sentences);
  }

  private static void holdChannels(Sentences sentences) {
    sentences.hold(14, "Returns how many drops it holds.", ReadBounds::held);
    sentences.hold(14, Sentences.NO_CHANNEL, () -> noSuchChannel(Calls.HELD));
    sentences.hold(15, "`drop`: a drop in it, from 0 on, that which is taken first",
        ReadBounds::dropsFromZeroOn);
    sentences.hold(15, "Returns its value.", ReadBounds::values);
    sentences.hold(15, Sentences.NO_CHANNEL, () -> noSuchChannel(Calls.VALUE_AT));
    sentences.hold(15, "or no such drop", ReadBounds::noSuchDrop);
    sentences.hold(16, "Returns how many fibers wait to send into it.", ReadBounds::sendersAt);
    sentences.hold(16, Sentences.NO_CHANNEL, () -> noSuchChannel(Calls.SENDERS_AT));
    sentences.hold(17, "Returns how many wait to take from it.", ReadBounds::takersAt);
    sentences.hold(17, Sentences.NO_CHANNEL, () -> noSuchChannel(Calls.TAKERS_AT));
  }

  private static void holdFibers(Sentences sentences) {
    sentences.hold(18, "Returns its state.", ReadBounds::states);
    sentences.hold(18, Sentences.NO_FIBER, () -> noSuchFiber(Calls.STATE_OF));
    sentences.hold(19, "Returns its place.", ReadBounds::places);
    sentences.hold(19, Sentences.NO_FIBER, () -> noSuchFiber(Calls.PLACE_OF));
    sentences.hold(20, "Returns its sum.", ReadBounds::sums);
    sentences.hold(20, Sentences.NO_FIBER, () -> noSuchFiber(Calls.SUM_OF));
    sentences.hold(21, "Returns how many steps it did in all.", ReadBounds::stepsInAll);
    sentences.hold(21, Sentences.NO_FIBER, () -> noSuchFiber(Calls.STEPS_DONE));
    sentences.hold(22, "Returns how many turns it had.", ReadBounds::turns);
    sentences.hold(22, Sentences.NO_FIBER, () -> noSuchFiber(Calls.TURNS_OF));
    sentences.hold(23, "Returns how many are ahead of it in the line", ReadBounds::aheadInLine);
    sentences.hold(23, "-1 if it is not in it.", ReadBounds::notInTheLine);
    sentences.hold(23, Sentences.NO_FIBER, () -> noSuchFiber(Calls.PLACE_IN_LINE));
  }

  /** A question of a channel: refused just outside those that there are, and answered inside. */
  static void noSuchChannel(int question) {
    for (int count : new int[] {0, 1, 3, 4}) {
      for (int number : Bounds.outside(0, count - 1)) {
        int[] call = {question, number, 0, 0, 0};
        Twins.refused("the channel " + number + " of " + count, IndexOutOfBoundsException.class,
            () -> Clocks.sized(8, count), clock -> Calls.make(clock, call));
      }
      for (int number = 0; number < count; number++) {
        int[] call = {question, number, 0, 0, 0};
        Twins.unchanged("the channel " + number + " of " + count, () -> Clocks.sized(2, count),
            clock -> Calls.make(clock, call));
      }
    }
  }

  /** A question of a fiber: refused just outside those that there are, and answered inside. */
  static void noSuchFiber(int question) {
    for (int count : new int[] {0, 1, 7, 8}) {
      for (int number : Bounds.outside(0, count - 1)) {
        int[] call = {question, number, 1, 0, 0};
        Twins.refused("the fiber " + number + " of " + count, IndexOutOfBoundsException.class,
            () -> Clocks.sized(count, 4), clock -> Calls.make(clock, call));
      }
      for (int number = 0; number < count; number++) {
        int[] call = {question, number, 1, 0, 0};
        Twins.unchanged("the fiber " + number + " of " + count, () -> Clocks.sized(count, 2),
            clock -> Calls.make(clock, call));
      }
    }
  }

  private static void time() {
    WaterFibers clock = new WaterFibers();
    Checks.same("at first", clock.time(), 0);
    clock.run(1);
    Checks.same("behind a turn", clock.time(), 1);
    clock.run(60);
    Checks.same("behind 61", clock.time(), 61);
    Checks.wrongArgument("run(61)", () -> clock.run(61));
    Checks.same("behind a run that was refused", clock.time(), 61);
  }

  private static void channels() {
    for (int count = 0; count <= 4; count++) {
      Checks.same("of " + count, Clocks.sized(8, count).channels(), count);
    }
    WaterFibers full = Clocks.full();
    Checks.wrongState("addChannel(1)", () -> full.addChannel(1));
    Checks.same("behind one that was refused", full.channels(), 4);
  }

  private static void fibers() {
    for (int count = 0; count <= 8; count++) {
      Checks.same("of " + count, Clocks.sized(count, 4).fibers(), count);
    }
    WaterFibers full = Clocks.full();
    Checks.wrongState("addFiber()", full::addFiber);
    Checks.same("behind one that was refused", full.fibers(), 8);
  }

  private static void done() {
    Checks.same("of none", new WaterFibers().done(), 0);
    for (int left = 0; left <= 8; left++) {
      WaterFibers clock = Clocks.of(8);
      for (int fiber = 0; fiber < left; fiber++) {
        clock.addStep(fiber, Clocks.GIVE_WAY, 0, 0);
      }
      Checks.same("with " + left + " to do", clock.done(), 8 - left);
      clock.run(8);
      Checks.same("behind all", clock.done(), 8);
    }
    Checks.same("of one in each state", Clocks.busy().done(), 1);
  }

  private static void idleTurns() {
    WaterFibers clock = Clocks.of(1);
    Checks.same("at first", clock.idleTurns(), 0);
    clock.addStep(0, Clocks.GIVE_WAY, 0, 0);
    clock.run(1);
    Checks.same("behind one that is not", clock.idleTurns(), 0);
    clock.run(1);
    Checks.same("behind one that is", clock.idleTurns(), 1);
    clock.run(60);
    Checks.same("behind 61", clock.idleTurns(), 61);
  }

  private static void next() {
    for (int fiber = 0; fiber < 8; fiber++) {
      WaterFibers clock = Clocks.of(8);
      clock.addStep(fiber, Clocks.GIVE_WAY, 0, 0);
      Checks.same("a line of one", clock.next(), fiber);
      clock.addStep(7 - fiber, Clocks.GIVE_WAY, 0, 0);
      Checks.same("a line of two", clock.next(), fiber);
      clock.run(1);
      Checks.same("the one that is left", clock.next(), 7 - fiber);
    }
  }

  private static void nextOfAnEmptyLine() {
    Checks.same("without fibers", new WaterFibers().next(), -1);
    Checks.same("without steps", Clocks.of(8).next(), -1);
    WaterFibers clock = Clocks.of(1);
    Clocks.steps(clock, 0, Clocks.SLEEP, 1, 0);
    clock.run(1);
    Checks.same("while all sleep", clock.next(), -1);
    clock.run(1);
    Checks.same("with all done", clock.next(), -1);
  }

  private static void noneIsReadyOrSleeps() {
    WaterFibers waiting = Clocks.of(8, 1, 1);
    waiting.pour(0, 1);
    int[][] steps = {{Clocks.SEND, 0, 1}, {Clocks.TAKE, 1, 0}, {Clocks.SEND_SUM, 0, 0},
        {Clocks.WAIT_FOR, 0, 0}};
    for (int fiber = 0; fiber < 8; fiber++) {
      Clocks.steps(waiting, fiber, steps[fiber % 4]);
    }
    for (int turn = 0; turn < 8; turn++) {
      Checks.no("with " + (8 - turn) + " ready", waiting.isStuck());
      waiting.run(1);
    }
    Checks.sameText("all wait", Clocks.states(waiting), "12141214");
    Checks.yes("with all waiting", waiting.isStuck());
    WaterFibers sleeping = Clocks.of(2, 1);
    Clocks.steps(sleeping, 0, Clocks.TAKE, 0, 0);
    Clocks.steps(sleeping, 1, Clocks.SLEEP, 1, 0, Clocks.TAKE, 0, 0);
    sleeping.run(2);
    Checks.sameText("one sleeps", Clocks.states(sleeping), "23");
    Checks.no("with one that sleeps", sleeping.isStuck());
    sleeping.run(1);
    Checks.yes("with both waiting", sleeping.isStuck());
    sleeping.pour(0, 1);
    Checks.no("with one ready again", sleeping.isStuck());
  }

  private static void notAllAreDone() {
    Checks.no("without fibers", new WaterFibers().isStuck());
    for (int count = 1; count <= 8; count++) {
      Checks.no("with all of " + count + " done", Clocks.of(count).isStuck());
    }
    for (int waits = 0; waits < 8; waits++) {
      WaterFibers clock = Clocks.of(8, 1);
      clock.addStep(waits, Clocks.TAKE, 0, 0);
      clock.run(1);
      Checks.same("done()", clock.done(), 7);
      Checks.yes("with all done but " + waits, clock.isStuck());
    }
  }

  private static void held() {
    for (int places = 1; places <= 4; places++) {
      WaterFibers clock = Clocks.of(1, places);
      for (int drops = 0; drops < places; drops++) {
        Checks.same("with " + drops + " in " + places, clock.held(0), drops);
        clock.pour(0, -5);
      }
      Checks.same("full", clock.held(0), places);
      Checks.wrongState("one more", () -> clock.pour(0, 1));
      Checks.same("full still", clock.held(0), places);
      Clocks.steps(clock, 0, Clocks.TAKE, 0, 0);
      clock.run(1);
      Checks.same("one was taken", clock.held(0), places - 1);
    }
  }

  private static void dropsFromZeroOn() {
    WaterFibers clock = Clocks.of(1, 4);
    Clocks.steps(clock, 0, Clocks.SLEEP, 1, 0, Clocks.TAKE, 0, 0);
    for (int drop = 0; drop < 4; drop++) {
      clock.pour(0, 11 * (drop + 1));
      Checks.same("valueAt(0, 0)", clock.valueAt(0, 0), 11);
      Checks.same("valueAt(0, " + drop + ")", clock.valueAt(0, drop), 11 * (drop + 1));
    }
    clock.run(2);
    Checks.same("the one that was taken", clock.sumOf(0), 11);
    for (int drop = 0; drop < 3; drop++) {
      Checks.same("valueAt(0, " + drop + ") then", clock.valueAt(0, drop), 11 * (drop + 2));
    }
  }

  private static void values() {
    for (int value : new int[] {-999, -1, 0, 1, 999}) {
      WaterFibers clock = Clocks.of(1, 1, 1);
      clock.pour(0, value);
      Clocks.steps(clock, 0, Clocks.SEND, 1, value);
      clock.run(1);
      Checks.same("poured", clock.valueAt(0, 0), value);
      Checks.same("sent", clock.valueAt(1, 0), value);
    }
  }

  private static void noSuchDrop() {
    for (int drops = 0; drops <= 4; drops++) {
      int held = drops;
      for (int drop : Bounds.outside(0, drops - 1)) {
        Twins.refused("the drop " + drop + " of " + drops, IndexOutOfBoundsException.class,
            () -> holding(held), clock -> clock.valueAt(1, drop));
      }
      for (int drop = 0; drop < drops; drop++) {
        Checks.same("the drop " + drop + " of " + drops, holding(drops).valueAt(1, drop), drop);
      }
    }
    WaterFibers emptied = Clocks.of(1, 4);
    emptied.pour(0, 1);
    Clocks.steps(emptied, 0, Clocks.TAKE, 0, 0);
    emptied.run(1);
    Checks.noSuchIndex("one that was taken", () -> emptied.valueAt(0, 0));
  }

  private static WaterFibers holding(int drops) {
    WaterFibers clock = Clocks.of(1, 4, 4, 4);
    clock.pour(0, 9);
    for (int drop = 0; drop < drops; drop++) {
      clock.pour(1, drop);
    }
    return clock;
  }

  /** So many of 8 fibers wait for the channel 1 of three, with a step of the kind. */
  private static WaterFibers waiting(int count, int kind) {
    WaterFibers clock = Clocks.of(8, 1, 1, 1);
    for (int channel = 0; channel < 3 && kind != Clocks.TAKE; channel++) {
      clock.pour(channel, 1);
    }
    for (int fiber = 0; fiber < count; fiber++) {
      clock.addStep(fiber, kind, 1, 0);
    }
    return clock;
  }

  private static void sendersAt() {
    for (int kind : new int[] {Clocks.SEND, Clocks.SEND_SUM}) {
      for (int count = 0; count <= 8; count++) {
        WaterFibers clock = waiting(count, kind);
        Checks.same("ahead of their turns", clock.sendersAt(1), 0);
        clock.run(8);
        Checks.same("of " + count, clock.sendersAt(1), count);
        Checks.same("of another", clock.sendersAt(0) + clock.sendersAt(2), 0);
        Checks.same("those that wait to take", clock.takersAt(1), 0);
      }
    }
  }

  private static void takersAt() {
    for (int count = 0; count <= 8; count++) {
      WaterFibers clock = waiting(count, Clocks.TAKE);
      Checks.same("ahead of their turns", clock.takersAt(1), 0);
      clock.run(8);
      Checks.same("of " + count, clock.takersAt(1), count);
      Checks.same("of another", clock.takersAt(0) + clock.takersAt(2), 0);
      Checks.same("those that wait to send", clock.sendersAt(1), 0);
      if (count > 0) {
        clock.pour(1, 1);
        Checks.same("one was woken", clock.takersAt(1), count - 1);
      }
    }
  }

  private static void states() {
    int[] due = {1, 2, 2, 3, 4, 0, 5};
    for (int fiber = 0; fiber < 7; fiber++) {
      Checks.same("of " + fiber, Clocks.busy().stateOf(fiber), due[fiber]);
    }
  }

  private static void places() {
    WaterFibers clock = Clocks.of(1);
    Checks.same("without steps", clock.placeOf(0), 0);
    for (int step = 0; step < 12; step++) {
      clock.addStep(0, Clocks.GIVE_WAY, 0, 0);
    }
    for (int turn = 0; turn <= 12; turn++) {
      Checks.same("behind " + turn, clock.placeOf(0), turn);
      clock.run(1);
    }
    Checks.same("behind all", clock.placeOf(0), 12);
    WaterFibers back = Clocks.of(1);
    for (int step = 0; step < 11; step++) {
      back.addStep(0, Clocks.GIVE_WAY, 0, 0);
    }
    back.addStep(0, Clocks.GO_BACK, 0, 1);
    back.run(11);
    Checks.same("at the last", back.placeOf(0), 11);
    back.run(1);
    Checks.same("back at the first, and a step", back.placeOf(0), 1);
  }

  private static void sums() {
    for (int value : new int[] {-999, 0, 999}) {
      WaterFibers clock = Clocks.of(8, 4);
      for (int drop = 0; drop < 4; drop++) {
        clock.pour(0, value);
        clock.addStep(7, Clocks.TAKE, 0, 0);
      }
      Checks.same("at first", clock.sumOf(7), 0);
      clock.run(1);
      Checks.same("of four drops", clock.sumOf(7), 4 * value);
      Checks.same("of another", clock.sumOf(0), 0);
    }
  }

  private static void stepsInAll() {
    WaterFibers clock = Clocks.of(1);
    Checks.same("without steps", clock.stepsDone(0), 0);
    for (int step = 0; step < 12; step++) {
      clock.addStep(0, Clocks.GO_BACK, step, 9);
    }
    clock.run(30);
    Checks.same("each step 10 times", clock.stepsDone(0), 120);
    clock.run(1);
    Checks.same("and no more", clock.stepsDone(0), 120);
    Checks.same("one that waits to send", Clocks.busy().stepsDone(0), 0);
    Checks.same("one that waits to take", Clocks.busy().stepsDone(1), 0);
    Checks.same("one that sleeps", Clocks.busy().stepsDone(3), 1);
    Checks.same("one that waits for a fiber", Clocks.busy().stepsDone(4), 0);
    Checks.same("one that goes back", Clocks.busy().stepsDone(5), 5);
  }

  private static void turns() {
    int[] due = {1, 1, 1, 1, 1, 3, 0};
    for (int fiber = 0; fiber < 7; fiber++) {
      Checks.same("of " + fiber, Clocks.busy().turnsOf(fiber), due[fiber]);
    }
    WaterFibers clock = Clocks.of(1);
    Clocks.steps(clock, 0, Clocks.GO_BACK, 0, 3);
    clock.run(60);
    Checks.same("four steps in one turn", clock.turnsOf(0), 1);
  }

  private static void aheadInLine() {
    for (int length = 1; length <= 8; length++) {
      WaterFibers clock = Clocks.of(8);
      for (int fiber = 8 - length; fiber < 8; fiber++) {
        clock.addStep(fiber, Clocks.SLEEP, 1, 0);
      }
      Checks.same("of the first of " + length, clock.placeInLine(8 - length), 0);
      Checks.same("of the last of " + length, clock.placeInLine(7), length - 1);
    }
  }

  private static void notInTheLine() {
    int[] due = {-1, -1, -1, -1, -1, 0, -1};
    for (int fiber = 0; fiber < 7; fiber++) {
      Checks.same("of " + fiber, Clocks.busy().placeInLine(fiber), due[fiber]);
    }
  }
}
