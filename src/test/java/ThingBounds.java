/** The sentences of "Terms", and ahead of it, about channels, fibers, sums and the line. */
final class ThingBounds {
  private ThingBounds() {
  }

  static void hold(Sentences sentences) {
    sentences.holdTerm(7, "An object is used for at most 512 calls after it has been made",
        ThingBounds::aLastCallAnswers);
    sentences.holdTerm(7, "Time is told in turns, from 0.", ThingBounds::timeIsFromZero);
    sentences.holdTerm(2, "At most 4, numbered from 0", ThingBounds::channelsFromNoneToFour);
    sentences.holdTerm(5, "each holds up to as many drops as it has places, 1 to 4",
        ThingBounds::placesFillByHand);
    sentences.holdTerm(6, "each holds up to as many drops as it has places, 1 to 4",
        ThingBounds::placesFillBySteps);
    sentences.holdTerm(15, "A drop has a value", ThingBounds::eachDropHasItsValue);
    sentences.holdTerm(15, "the one that came first is taken first",
        ThingBounds::dropsGoRoundInOrder);
    sentences.holdTerm(3, "At most 8, numbered likewise", ThingBounds::fibersFromNoneToEight);
    sentences.holdTerm(4, "each has up to 12 steps, numbered from 0",
        ThingBounds::stepsFromNoneToTwelve);
    sentences.holdTerm(19, "a place (the step that it does next, 0 at first)",
        ThingBounds::placeIsZeroAtFirst);
    sentences.holdTerm(20, "a sum (0, at first)", ThingBounds::sumIsZeroAtFirst);
    sentences.holdTerm(18, "is in a state: 0 ready, 1 waits to send, 2 waits to take, 3 sleeps,"
        + " 4 waits for a fiber, 5 done.", ThingBounds::statesByTheirNumbers);
    sentences.holdTerm(3, "A new one, without steps, is done.", ThingBounds::newFiberIsDone);
    sentences.holdTerm(20, "Sums are 32-bit integers, which wrap around.",
        ThingBounds::sumsWrapAround);
    sentences.holdTerm(23, "The line: all fibers that are ready, each behind those that became so"
        + " ahead of it", ThingBounds::lineFromNoneToEight);
    sentences.holdTerm(23, "of several that become so at once the smallest number first",
        ThingBounds::eightBecomeReadyAtOnce);
  }

  private static void aLastCallAnswers() {
    WaterFibers idle = new WaterFibers();
    for (int call = 1; call < 512; call++) {
      Checks.same("run(60), the call " + call, idle.run(60), 60);
    }
    Checks.same("time(), the call 512", idle.time(), 511 * 60);
    WaterFibers busy = Clocks.of(1);
    for (int step = 0; step < 12; step++) {
      busy.addStep(0, Clocks.GO_BACK, 0, 9);
    }
    for (int call = 14; call < 512; call++) {
      Checks.same("run(60), the call " + call, busy.run(60), 0);
    }
    Checks.same("stepsDone(0), the call 512", busy.stepsDone(0), 498 * 60 * 4);
  }

  private static void timeIsFromZero() {
    WaterFibers clock = new WaterFibers();
    Checks.same("time() at first", clock.time(), 0);
    clock.run(1);
    Checks.same("time() behind a turn", clock.time(), 1);
  }

  private static void channelsFromNoneToFour() {
    WaterFibers clock = new WaterFibers();
    for (int i = 0; i < 4; i++) {
      int next = i;
      Checks.same("channels()", clock.channels(), i);
      Checks.noSuchIndex("held(" + i + ") of " + i, () -> clock.held(next));
      Checks.same("addChannel(1) behind " + i, clock.addChannel(1), i);
      Checks.same("pour(" + i + ", 5)", clock.pour(i, 5), 1);
    }
    Checks.wrongState("addChannel(1) behind 4", () -> clock.addChannel(1));
    Checks.same("channels() then", clock.channels(), 4);
    Checks.noSuchIndex("held(4) of 4", () -> clock.held(4));
  }

  private static void placesFillByHand() {
    WaterFibers clock = Clocks.of(0, 4, 3, 2, 1);
    for (int channel = 0; channel < 4; channel++) {
      int number = channel;
      int places = 4 - channel;
      for (int drops = 1; drops <= places; drops++) {
        Checks.same("pour into " + places + " places", clock.pour(channel, drops), drops);
      }
      Checks.wrongState("pour into " + places + " full places", () -> clock.pour(number, 9));
      Checks.same("held by " + places + " places", clock.held(channel), places);
    }
  }

  private static void placesFillBySteps() {
    WaterFibers clock = Clocks.of(4, 4, 3, 2, 1);
    for (int channel = 0; channel < 4; channel++) {
      Clocks.steps(clock, channel, Clocks.SEND, channel, 1, Clocks.GO_BACK, 0, 9);
    }
    clock.run(60);
    for (int channel = 0; channel < 4; channel++) {
      int places = 4 - channel;
      Checks.same("held by " + places + " places", clock.held(channel), places);
      Checks.same("steps done with " + places + " places", clock.stepsDone(channel), 2 * places);
      Checks.same("the sender of " + places + " places", clock.stateOf(channel),
          Clocks.WAITS_TO_SEND);
    }
  }

  private static void dropsGoRoundInOrder() {
    WaterFibers clock = Clocks.of(1, 4);
    Clocks.steps(clock, 0, Clocks.TAKE, 0, 0, Clocks.GIVE_WAY, 0, 0, Clocks.GO_BACK, 0, 9,
        Clocks.GO_BACK, 0, 2);
    int[] values = new int[30];
    for (int i = 0; i < values.length; i++) {
      values[i] = i % 3 == 0 ? 999 - i : i % 3 == 1 ? -999 + i : i;
    }
    int poured = 0;
    int sum = 0;
    for (int taken = 0; taken < 30; taken++) {
      for (; poured < 30 && poured < taken + 4; poured++) {
        clock.pour(0, values[poured]);
      }
      Checks.same("the first of the drops behind " + taken, clock.valueAt(0, 0), values[taken]);
      Checks.same("the last of them", clock.valueAt(0, poured - taken - 1), values[poured - 1]);
      clock.run(1);
      sum += values[taken];
      Checks.same("sumOf(0) behind the drop " + taken, clock.sumOf(0), sum);
    }
    Checks.same("held(0) behind all", clock.held(0), 0);
  }

  private static void eachDropHasItsValue() {
    int[] values = {-999, 0, 999, -999};
    WaterFibers clock = Clocks.of(1, 4);
    for (int drop = 0; drop < 4; drop++) {
      clock.pour(0, values[drop]);
    }
    for (int drop = 0; drop < 4; drop++) {
      Checks.same("valueAt(0, " + drop + ")", clock.valueAt(0, drop), values[drop]);
    }
  }

  private static void statesByTheirNumbers() {
    stateIs("ready", 0, Clocks.GIVE_WAY, 0);
    stateIs("waits to send", 1, Clocks.SEND, 0);
    stateIs("waits to send its sum", 1, Clocks.SEND_SUM, 0);
    stateIs("waits to take", 2, Clocks.TAKE, 1);
    stateIs("sleeps", 3, Clocks.SLEEP, 9);
    stateIs("waits for a fiber", 4, Clocks.WAIT_FOR, 1);
    stateIs("done", 5, Clocks.TAKE, 0);
  }

  /** The state of a fiber behind a turn, its first step being of the kind. */
  private static void stateIs(String what, int due, int kind, int one) {
    WaterFibers clock = Clocks.of(2, 1, 1);
    clock.pour(0, 1);
    clock.addStep(0, kind, one, 1);
    if (due != Clocks.DONE) {
      clock.addStep(0, Clocks.GIVE_WAY, 0, 0);
    }
    clock.addStep(1, Clocks.SLEEP, 20, 0);
    Checks.same("ahead of its turn", clock.stateOf(0), Clocks.READY);
    clock.run(1);
    Checks.same(what, clock.stateOf(0), due);
  }

  private static void fibersFromNoneToEight() {
    WaterFibers clock = new WaterFibers();
    for (int i = 0; i < 8; i++) {
      int next = i;
      Checks.same("fibers()", clock.fibers(), i);
      Checks.noSuchIndex("stateOf(" + i + ") of " + i, () -> clock.stateOf(next));
      Checks.same("addFiber() behind " + i, clock.addFiber(), i);
      Checks.same("addStep(" + i + ", 3, 0, 0)", clock.addStep(i, Clocks.GIVE_WAY, 0, 0), 0);
    }
    Checks.wrongState("addFiber() behind 8", clock::addFiber);
    Checks.same("fibers() then", clock.fibers(), 8);
    Checks.noSuchIndex("stateOf(8) of 8", () -> clock.stateOf(8));
    Checks.same("run(8)", clock.run(8), 0);
    Checks.sameText("all had a turn", Clocks.states(clock), "55555555");
  }

  private static void stepsFromNoneToTwelve() {
    WaterFibers clock = Clocks.of(8);
    for (int i = 0; i < 8; i++) {
      int fiber = i;
      for (int step = 0; step < 12; step++) {
        Checks.same("the step " + step, clock.addStep(fiber, Clocks.GIVE_WAY, 0, 0), step);
      }
      Checks.wrongState("a step behind 12", () -> clock.addStep(fiber, Clocks.GIVE_WAY, 0, 0));
    }
    clock.run(48);
    clock.run(47);
    Checks.sameText("behind 95 turns", Clocks.states(clock), "55555550");
    Checks.same("placeOf(7) then", clock.placeOf(7), 11);
    clock.run(1);
    for (int fiber = 0; fiber < 8; fiber++) {
      Checks.same("placeOf(" + fiber + ") behind 96", clock.placeOf(fiber), 12);
      Checks.same("stepsDone(" + fiber + ") behind 96", clock.stepsDone(fiber), 12);
    }
  }

  private static void placeIsZeroAtFirst() {
    WaterFibers clock = Clocks.busy();
    int fiber = clock.addFiber();
    Checks.same("placeOf a new fiber", clock.placeOf(fiber), 0);
    clock.addStep(fiber, Clocks.GIVE_WAY, 0, 0);
    Checks.same("placeOf a new fiber with a step", clock.placeOf(fiber), 0);
    clock.run(2);
    Checks.same("placeOf a new fiber behind its turn", clock.placeOf(fiber), 1);
  }

  private static void sumIsZeroAtFirst() {
    WaterFibers clock = Clocks.busy();
    int fiber = clock.addFiber();
    Checks.same("sumOf a new fiber", clock.sumOf(fiber), 0);
    Clocks.steps(clock, fiber, Clocks.SEND_SUM, 1, 0);
    clock.run(2);
    Checks.sameText("a new fiber sends 0", Clocks.drops(clock, 1), "8 0");
  }

  private static void newFiberIsDone() {
    WaterFibers clock = Clocks.busy();
    int fiber = clock.addFiber();
    Checks.same("its state", clock.stateOf(fiber), Clocks.DONE);
    Checks.same("its place in line", clock.placeInLine(fiber), -1);
    Checks.same("the turns until it is done", clock.turnsUntilDone(fiber), 0);
    Checks.same("done()", clock.done(), 2);
    clock.run(60);
    Checks.same("the turns it had", clock.turnsOf(fiber), 0);
    Checks.same("its state still", clock.stateOf(fiber), Clocks.DONE);
  }

  private static void sumsWrapAround() {
    WaterFibers up = Clocks.nearTheEnd(1);
    wraps(up, 0, 2147483646);
    wraps(up, 1, Integer.MAX_VALUE);
    wraps(up, 1, Integer.MIN_VALUE);
    wraps(up, -1, Integer.MAX_VALUE);
    WaterFibers down = Clocks.nearTheEnd(-1);
    wraps(down, -1, -2147483647);
    wraps(down, -1, Integer.MIN_VALUE);
    wraps(down, -1, Integer.MAX_VALUE);
    WaterFibers far = Clocks.nearTheEnd(1);
    wraps(far, 999, -2147483648 + 997);
    wraps(far, -999, 2147483646);
  }

  private static void wraps(WaterFibers clock, int drop, int due) {
    if (drop != 0) {
      clock.pour(0, drop);
      clock.run(1);
    }
    Checks.same("the sum with " + drop + " more", clock.sumOf(0), due);
  }

  private static void lineFromNoneToEight() {
    WaterFibers clock = Clocks.of(8);
    Checks.sameText("an empty line", Clocks.line(clock), "");
    int[] order = {3, 0, 7, 1, 6, 2, 5, 4};
    StringBuilder line = new StringBuilder();
    for (int fiber : order) {
      clock.addStep(fiber, Clocks.GIVE_WAY, 0, 0);
      clock.addStep(fiber, Clocks.GIVE_WAY, 0, 0);
      line.append(fiber);
      Checks.sameText("the line", Clocks.line(clock), line.toString());
    }
    clock.run(1);
    Checks.sameText("the line behind a turn", Clocks.line(clock), "07162543");
    clock.run(7);
    Checks.sameText("the line behind 8 turns", Clocks.line(clock), "30716254");
    clock.run(7);
    Checks.sameText("the line of the last", Clocks.line(clock), "4");
    clock.run(1);
    Checks.sameText("an empty line again", Clocks.line(clock), "");
  }

  private static void eightBecomeReadyAtOnce() {
    WaterFibers clock = Clocks.of(8);
    for (int fiber = 7; fiber >= 0; fiber--) {
      Clocks.steps(clock, fiber, Clocks.SLEEP, fiber + 1, 0, Clocks.GIVE_WAY, 0, 0,
          Clocks.GIVE_WAY, 0, 0);
    }
    clock.run(8);
    Checks.sameText("all sleep", Clocks.states(clock), "33333333");
    clock.run(1);
    Checks.sameText("the line behind the turn of 0", Clocks.line(clock), "12345670");
  }
}
