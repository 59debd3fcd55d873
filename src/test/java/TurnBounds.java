/** The sentences of "Terms" about who is ready when, and how a turn goes. */
final class TurnBounds {
  private TurnBounds() {
  }

  static void hold(Sentences sentences) {
    String taker = "With a drop that was sent, the fiber that waited the longest to take from this"
        + " channel is ready, if there is one";
    String sender = "with one that was taken, the one that waited the longest to send into it";
    sentences.holdTerm(6, taker, TurnBounds::oneTakerForEachDrop);
    sentences.holdTerm(5, taker, TurnBounds::oneTakerForEachPouredDrop);
    sentences.holdTerm(6, sender, TurnBounds::oneSenderForEachPlace);
    sentences.holdTerm(6, "it does its step as its turn comes, and may have to wait again.",
        TurnBounds::mayHaveToWaitAgain);
    sentences.holdTerm(6, "With a fiber that is done, all that wait for it are ready.",
        TurnBounds::fromNoneToSevenWaitForOne);
    sentences.holdTerm(6, "A turn goes like this:", TurnBounds::aTurnGoesInThisOrder);
    sentences.holdTerm(6, "1. All that slept till this turn are ready.",
        TurnBounds::fromNoneToEightWakeAtOnce);
    sentences.holdTerm(6, "2. The first fiber of the line, if there is one, leaves it",
        TurnBounds::theFirstLeavesTheLine);
    sentences.holdTerm(6, "does steps, one after the other, as long as it is ready",
        TurnBounds::stopsWhenItIsNotReady);
    sentences.holdTerm(6, "has steps left", TurnBounds::stopsWithoutStepsLeft);
    sentences.holdTerm(6, "did not give way", TurnBounds::stopsWhenItGaveWay);
    sentences.holdTerm(6, "did fewer than 4 of them in this turn", TurnBounds::fourStepsATurn);
    sentences.holdTerm(6, "(a step that is not done counts none)", TurnBounds::countsFromZeroAgain);
    sentences.holdTerm(6, "If it is ready still, it is done, if its place is as many as its steps"
        + " are", TurnBounds::isDoneAtTheEndOfItsTurn);
    sentences.holdTerm(6, "and otherwise the last one of the line.",
        TurnBounds::goesBehindThoseItWoke);
    sentences.holdTerm(6, "Without one, the turn is idle.", TurnBounds::idleWithoutAReadyOne);
    sentences.holdTerm(7, "3. The time is 1 greater.", TurnBounds::timeIsOneGreater);
  }

  /** Eight fibers but one wait to take from the channel 0, the 6 first and the 0 last. */
  private static WaterFibers takersWait(int places) {
    WaterFibers clock = Clocks.of(8, places, 1);
    for (int fiber = 6; fiber >= 0; fiber--) {
      Clocks.steps(clock, fiber, Clocks.TAKE, 0, 0);
    }
    clock.run(7);
    return clock;
  }

  private static void oneTakerForEachDrop() {
    WaterFibers alone = Clocks.of(1, 1);
    Clocks.steps(alone, 0, Clocks.SEND, 0, 5);
    alone.run(1);
    Checks.sameText("none waits to take", Clocks.states(alone), "5");
    Checks.same("next(), if none waits", alone.next(), -1);
    for (int drops = 1; drops <= 4; drops++) {
      WaterFibers clock = takersWait(4);
      for (int drop = 0; drop < drops; drop++) {
        clock.addStep(7, Clocks.SEND, 0, drop);
      }
      clock.run(1);
      Checks.sameText("the line by " + drops + " drops", Clocks.line(clock), "6543".substring(0, drops));
      Checks.same("takersAt(0)", clock.takersAt(0), 7 - drops);
      Checks.same("held(0)", clock.held(0), drops);
    }
    WaterFibers other = takersWait(4);
    Clocks.steps(other, 7, Clocks.SEND, 1, 5);
    other.run(1);
    Checks.sameText("a drop in another channel", Clocks.states(other), "22222225");
  }

  private static void oneTakerForEachPouredDrop() {
    WaterFibers clock = takersWait(4);
    clock.pour(1, 0);
    Checks.sameText("a drop in another channel", Clocks.line(clock), "");
    for (int drops = 1; drops <= 4; drops++) {
      clock.pour(0, drops);
      Checks.sameText("the line by " + drops, Clocks.line(clock), "6543".substring(0, drops));
      Checks.same("takersAt(0)", clock.takersAt(0), 7 - drops);
    }
    WaterFibers none = Clocks.of(1, 1);
    none.pour(0, 1);
    Checks.sameText("none waits to take", Clocks.states(none), "5");
  }

  /** Seven fibers wait to send into the channel 0, the 6 first and the 0 last. */
  private static WaterFibers sendersWait() {
    WaterFibers clock = Clocks.of(8, 4, 1);
    for (int drop = 0; drop < 4; drop++) {
      clock.pour(0, 100 + drop);
    }
    clock.pour(1, 50);
    for (int fiber = 6; fiber >= 0; fiber--) {
      Clocks.steps(clock, fiber, fiber % 2 == 0 ? Clocks.SEND : Clocks.SEND_SUM, 0, fiber);
    }
    clock.run(7);
    return clock;
  }

  private static void oneSenderForEachPlace() {
    WaterFibers alone = Clocks.of(1, 1);
    alone.pour(0, 5);
    Clocks.steps(alone, 0, Clocks.TAKE, 0, 0);
    alone.run(1);
    Checks.sameText("none waits to send", Clocks.states(alone), "5");
    Checks.same("next(), if none waits", alone.next(), -1);
    for (int drops = 1; drops <= 4; drops++) {
      WaterFibers clock = sendersWait();
      for (int drop = 0; drop < drops; drop++) {
        clock.addStep(7, Clocks.TAKE, 0, 0);
      }
      clock.run(1);
      Checks.sameText("the line by " + drops + " taken", Clocks.line(clock),
          "6543".substring(0, drops));
      Checks.same("sendersAt(0)", clock.sendersAt(0), 7 - drops);
      Checks.same("held(0)", clock.held(0), 4 - drops);
    }
    WaterFibers other = sendersWait();
    Clocks.steps(other, 7, Clocks.TAKE, 1, 0);
    other.run(1);
    Checks.sameText("one taken from another channel", Clocks.states(other), "11111115");
  }

  private static void mayHaveToWaitAgain() {
    WaterFibers takers = Clocks.of(3, 1);
    Clocks.steps(takers, 0, Clocks.TAKE, 0, 0);
    Clocks.steps(takers, 1, Clocks.SLEEP, 1, 0, Clocks.TAKE, 0, 0);
    takers.run(2);
    Clocks.steps(takers, 2, Clocks.TAKE, 0, 0);
    takers.pour(0, 5);
    Checks.sameText("the one that was woken is behind", Clocks.line(takers), "20");
    takers.run(2);
    Checks.sameText("it waits to take again", Clocks.states(takers), "205");
    Checks.same("its step is not done", takers.stepsDone(0), 0);
    takers.pour(0, 6);
    takers.run(2);
    Checks.sameText("the other one was ahead of it again", Clocks.states(takers), "255");
    takers.pour(0, 7);
    takers.run(1);
    Checks.same("it took at last", takers.sumOf(0), 7);
    Checks.same("the turns it had", takers.turnsOf(0), 4);
    WaterFibers senders = Clocks.of(2, 1);
    senders.pour(0, 1);
    Clocks.steps(senders, 0, Clocks.SEND, 0, 2);
    senders.run(1);
    Clocks.steps(senders, 1, Clocks.TAKE, 0, 0);
    senders.run(1);
    Checks.sameText("the sender is ready", Clocks.states(senders), "05");
    senders.pour(0, 3);
    senders.run(1);
    Checks.sameText("it waits to send again", Clocks.states(senders), "15");
    Checks.same("its step is not done", senders.stepsDone(0), 0);
    Checks.sameText("what was poured is there", Clocks.drops(senders, 0), "3");
  }

  private static void fromNoneToSevenWaitForOne() {
    for (int waiting = 0; waiting <= 7; waiting++) {
      WaterFibers clock = Clocks.of(8);
      for (int fiber = waiting - 1; fiber >= 0; fiber--) {
        Clocks.steps(clock, fiber, Clocks.WAIT_FOR, 7, 0, Clocks.GIVE_WAY, 0, 0);
      }
      Clocks.steps(clock, 7, Clocks.SLEEP, 9, 0);
      clock.run(9);
      Checks.sameText("all of " + waiting + " wait", Clocks.states(clock),
          "4444444".substring(0, waiting) + "5555555".substring(waiting) + "3");
      clock.run(1 + waiting);
      Checks.sameText("all of " + waiting + " are ready", Clocks.line(clock),
          "0123456".substring(0, waiting));
    }
  }

  private static void fromNoneToEightWakeAtOnce() {
    for (int sleeping = 0; sleeping <= 8; sleeping++) {
      WaterFibers clock = Clocks.of(8);
      for (int fiber = sleeping - 1; fiber >= 0; fiber--) {
        Clocks.steps(clock, fiber, Clocks.SLEEP, fiber + 2, 0, Clocks.GIVE_WAY, 0, 0);
      }
      clock.run(sleeping + 1);
      Checks.same("ready ahead of that turn", clock.next(), -1);
      Checks.same("idle turns", clock.run(1), sleeping == 0 ? 1 : 0);
      Checks.same("ready then", Clocks.line(clock).length(), Math.max(sleeping - 1, 0));
      Checks.same("the turns of 0", clock.turnsOf(0), sleeping == 0 ? 0 : 2);
    }
    WaterFibers early = Clocks.of(2);
    Clocks.steps(early, 0, Clocks.SLEEP, 3, 0);
    Clocks.steps(early, 1, Clocks.SLEEP, 3, 0);
    early.run(4);
    Checks.sameText("one whose turn is the next sleeps still", Clocks.states(early), "53");
  }

  /** What sleeps is woken ahead of the first fiber's turn, and the time is told behind it. */
  private static void aTurnGoesInThisOrder() {
    WaterFibers clock = Clocks.of(3);
    Clocks.steps(clock, 1, Clocks.SLEEP, 3, 0, Clocks.GIVE_WAY, 0, 0, Clocks.GIVE_WAY, 0, 0);
    Clocks.steps(clock, 2, Clocks.SLEEP, 2, 0, Clocks.GIVE_WAY, 0, 0, Clocks.GIVE_WAY, 0, 0);
    for (int step = 0; step < 4; step++) {
      clock.addStep(0, Clocks.GIVE_WAY, 0, 0);
    }
    clock.run(3);
    Checks.sameText("both sleep till the turn 3", Clocks.states(clock), "033");
    Checks.sameText("the line ahead of it", Clocks.line(clock), "0");
    Checks.same("the turn 3", clock.run(1), 0);
    Checks.sameText("the line behind it", Clocks.line(clock), "120");
    Checks.same("the time behind it", clock.time(), 4);
    WaterFibers alone = Clocks.of(1);
    Clocks.steps(alone, 0, Clocks.SLEEP, 1, 0, Clocks.SLEEP, 1, 0);
    Checks.same("woken ahead of each turn, it has all of them", alone.run(3), 0);
    Checks.same("its turns", alone.turnsOf(0), 3);
  }

  private static void theFirstLeavesTheLine() {
    WaterFibers clock = Clocks.of(8);
    for (int fiber = 0; fiber < 8; fiber++) {
      Clocks.steps(clock, fiber, Clocks.SLEEP, 20, 0);
    }
    for (int turns = 1; turns <= 8; turns++) {
      clock.run(1);
      Checks.sameText("the line behind " + turns, Clocks.line(clock), "01234567".substring(turns));
    }
    Checks.same("an empty line: idle", clock.run(1), 1);
  }

  private static void stopsWhenItIsNotReady() {
    int[][] stops = {
      {Clocks.SEND, 0, 1, Clocks.WAITS_TO_SEND}, {Clocks.TAKE, 1, 0, Clocks.WAITS_TO_TAKE},
      {Clocks.SLEEP, 1, 0, Clocks.SLEEPS}, {Clocks.WAIT_FOR, 1, 0, Clocks.WAITS_FOR_FIBER},
      {Clocks.SEND_SUM, 0, 1, Clocks.WAITS_TO_SEND},
    };
    for (int[] stop : stops) {
      WaterFibers clock = Clocks.of(2, 1, 1, 4);
      clock.pour(0, 1);
      Clocks.steps(clock, 0, Clocks.SEND, 2, 1, stop[0], stop[1], stop[2], Clocks.SEND, 2, 2,
          Clocks.SEND, 2, 3);
      Clocks.steps(clock, 1, Clocks.SLEEP, 20, 0);
      clock.run(1);
      Checks.same("its state", clock.stateOf(0), stop[3]);
      Checks.same("what it sent", clock.held(2), 1);
    }
  }

  /** So many steps that end no turn by themselves. */
  private static WaterFibers quick(int steps) {
    WaterFibers clock = Clocks.of(1, 1);
    for (int step = 0; step < steps; step++) {
      clock.addStep(0, step % 2 == 0 ? Clocks.SEND : Clocks.TAKE, 0, 1);
    }
    return clock;
  }

  private static void stopsWithoutStepsLeft() {
    for (int steps = 1; steps <= 12; steps++) {
      WaterFibers clock = quick(steps);
      int turns = (steps + 3) / 4;
      Checks.same("idle turns of " + steps + " steps", clock.run(9), 9 - turns);
      Checks.same("its turns", clock.turnsOf(0), turns);
      Checks.same("its steps", clock.stepsDone(0), steps);
      Checks.same("its place", clock.placeOf(0), steps);
      Checks.same("its state", clock.stateOf(0), Clocks.DONE);
    }
  }

  private static void stopsWhenItGaveWay() {
    WaterFibers clock = Clocks.of(1);
    for (int step = 0; step < 12; step++) {
      clock.addStep(0, Clocks.GIVE_WAY, 0, 0);
    }
    for (int turn = 1; turn <= 12; turn++) {
      Checks.same("run(1)", clock.run(1), 0);
      Checks.same("its steps behind " + turn, clock.stepsDone(0), turn);
    }
    Checks.same("run(1) behind all", clock.run(1), 1);
  }

  private static void fourStepsATurn() {
    WaterFibers clock = quick(12);
    for (int turn = 1; turn <= 3; turn++) {
      clock.run(1);
      Checks.same("its place behind " + turn, clock.placeOf(0), 4 * turn);
      Checks.same("its state", clock.stateOf(0), turn < 3 ? Clocks.READY : Clocks.DONE);
    }
    WaterFibers back = Clocks.of(1);
    Clocks.steps(back, 0, Clocks.GO_BACK, 0, 4);
    back.run(1);
    Checks.same("going back counts too", back.stepsDone(0), 4);
    Checks.same("its state", back.stateOf(0), Clocks.READY);
  }

  private static void countsFromZeroAgain() {
    for (int ahead = 0; ahead <= 4; ahead++) {
      WaterFibers clock = Clocks.of(1, 4, 1);
      for (int step = 0; step < ahead; step++) {
        clock.addStep(0, Clocks.SEND, 0, step);
      }
      Clocks.steps(clock, 0, Clocks.TAKE, 1, 0, Clocks.SEND, 1, 0, Clocks.TAKE, 1, 0,
          Clocks.SEND, 1, 0, Clocks.TAKE, 1, 0);
      clock.run(1);
      Checks.same("its steps, " + ahead + " ahead", clock.stepsDone(0), ahead);
      Checks.same("its state", clock.stateOf(0),
          ahead < 4 ? Clocks.WAITS_TO_TAKE : Clocks.READY);
      clock.run(1);
      clock.pour(1, 1);
      clock.run(1);
      Checks.same("its steps as it was woken", clock.stepsDone(0), ahead + 4);
      clock.run(1);
      Checks.same("its steps then", clock.stepsDone(0), ahead + 5);
    }
  }

  private static void isDoneAtTheEndOfItsTurn() {
    for (int steps = 3; steps <= 5; steps++) {
      WaterFibers clock = quick(steps);
      clock.run(1);
      Checks.same("its state behind a turn, of " + steps, clock.stateOf(0),
          steps <= 4 ? Clocks.DONE : Clocks.READY);
    }
    WaterFibers asleep = Clocks.of(1);
    Clocks.steps(asleep, 0, Clocks.SLEEP, 1, 0);
    asleep.run(1);
    Checks.same("its last step sleeps: it is not done", asleep.stateOf(0), Clocks.SLEEPS);
    Checks.same("its place is as many as its steps", asleep.placeOf(0), 1);
    asleep.run(1);
    Checks.same("it is done in the turn behind", asleep.stateOf(0), Clocks.DONE);
    Checks.same("without a step", asleep.stepsDone(0), 1);
  }

  private static void goesBehindThoseItWoke() {
    WaterFibers clock = Clocks.of(5, 4);
    for (int fiber = 1; fiber <= 3; fiber++) {
      Clocks.steps(clock, fiber, Clocks.TAKE, 0, 0);
    }
    clock.run(3);
    Clocks.steps(clock, 0, Clocks.SEND, 0, 1, Clocks.SEND, 0, 2, Clocks.GIVE_WAY, 0, 0,
        Clocks.GIVE_WAY, 0, 0);
    Clocks.steps(clock, 4, Clocks.GIVE_WAY, 0, 0, Clocks.GIVE_WAY, 0, 0);
    clock.run(1);
    Checks.sameText("the line", Clocks.line(clock), "4120");
    WaterFibers alone = Clocks.of(1);
    Clocks.steps(alone, 0, Clocks.GIVE_WAY, 0, 0, Clocks.GIVE_WAY, 0, 0);
    alone.run(1);
    Checks.sameText("the line of one", Clocks.line(alone), "0");
  }

  private static void idleWithoutAReadyOne() {
    Checks.same("without fibers", new WaterFibers().run(1), 1);
    Checks.same("without steps", Clocks.of(8).run(1), 1);
    Checks.same("one is ready", quick(1).run(1), 0);
    WaterFibers waits = takersWait(1);
    Checks.same("all wait or are done", waits.run(1), 1);
    WaterFibers sleeps = Clocks.of(1);
    Clocks.steps(sleeps, 0, Clocks.SLEEP, 2, 0);
    sleeps.run(1);
    Checks.same("one sleeps", sleeps.run(1), 1);
    Checks.same("one that slept till this turn", sleeps.run(1), 0);
    Checks.same("all are done", sleeps.run(1), 1);
  }

  private static void timeIsOneGreater() {
    WaterFibers clock = quick(5);
    for (int turn = 1; turn <= 4; turn++) {
      Checks.same("idle or not", clock.run(1), turn <= 2 ? 0 : 1);
      Checks.same("time()", clock.time(), turn);
    }
  }
}
