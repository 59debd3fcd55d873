/** The sentences of "Terms" about the kinds of steps. */
final class StepBounds {
  private StepBounds() {
  }

  static void hold(Sentences sentences) {
    sentences.holdTerm(4, "Steps have a kind and two numbers, called one and two:",
        StepBounds::kindAndTwoNumbersAreKept);
    sentences.holdTerm(6, "0: sends a drop of the value two into the channel one, if that has room",
        StepBounds::sendsIntoTheLastPlace);
    sentences.holdTerm(6, "otherwise the fiber waits to send there, and the step is not done.",
        StepBounds::waitsToSendWithoutRoom);
    sentences.holdTerm(6, "1: takes a drop out of the channel one, if there is one, and adds its"
        + " value to the sum", StepBounds::takesTheLastDrop);
    sentences.holdTerm(6, "otherwise it waits to take there, and the step is not done.",
        StepBounds::waitsToTakeWithoutADrop);
    sentences.holdTerm(6, "2: sleeps for one turns, 1 to 20: it is ready again at the beginning of"
        + " the turn that is as many behind this one.", StepBounds::sleepsOneToTwenty);
    sentences.holdTerm(6, "(Two means nothing.)", StepBounds::twoMeansNothing);
    sentences.holdTerm(6, "3: gives way: the turn ends.", StepBounds::givesWayAtEachPlace);
    sentences.holdTerm(6, "(One and two mean nothing.)", StepBounds::oneAndTwoMeanNothing);
    sentences.holdTerm(6, "4: waits for the fiber one, if that is not done",
        StepBounds::waitsForOneThatIsNotDone);
    sentences.holdTerm(6, "if that is not done; then the step is not done.",
        StepBounds::waitingIsNoStep);
    sentences.holdTerm(6, "5: goes back to the step one, which is not behind this one",
        StepBounds::goesBackToItselfOrTheFirst);
    sentences.holdTerm(6, "two times, 1 to 9", StepBounds::goesBackOneToNineTimes);
    sentences.holdTerm(6, "the time behind these it goes on, and counts anew.",
        StepBounds::countsAnew);
    sentences.holdTerm(6, "6: sends a drop of the value of its sum into the channel one",
        StepBounds::sendsTheSumItHas);
    sentences.holdTerm(6, "as the kind 0.", StepBounds::sendsTheSumAsTheKindZero);
    sentences.holdTerm(6, "A step that is done moves the place to the next one, but for going back.",
        StepBounds::eachKindMovesThePlace);
  }

  /** Steps of one fiber, each with other numbers, are done as they were added. */
  private static void kindAndTwoNumbersAreKept() {
    WaterFibers clock = Clocks.of(2, 4, 4, 4);
    Clocks.steps(clock, 0, Clocks.SEND, 2, -7, Clocks.SEND, 1, 8, Clocks.TAKE, 1, 5,
        Clocks.SEND_SUM, 0, 3, Clocks.SLEEP, 4, 9, Clocks.WAIT_FOR, 1, 2, Clocks.GO_BACK, 6, 3,
        Clocks.GO_BACK, 7, 2);
    Clocks.steps(clock, 1, Clocks.SLEEP, 8, 1);
    clock.run(2);
    Checks.sameText("the drops", Clocks.drops(clock, 2) + "/" + Clocks.drops(clock, 1) + "/"
        + Clocks.drops(clock, 0), "-7//8");
    Checks.same("behind four steps", clock.placeOf(0), 4);
    clock.run(4);
    Checks.sameText("both sleep", Clocks.states(clock), "33");
    clock.run(1);
    Checks.sameText("the 0 waits for the 1", Clocks.states(clock), "43");
    clock.run(3);
    Checks.sameText("the 1 is done", Clocks.states(clock), "05");
    clock.run(2);
    Checks.same("the steps of 0 with going back", clock.stepsDone(0), 6 + 4 + 3);
    Checks.sameText("all are done", Clocks.states(clock), "55");
  }

  private static void sendsIntoTheLastPlace() {
    for (int places = 1; places <= 4; places++) {
      for (int value : new int[] {-999, 0, 999}) {
        WaterFibers clock = Clocks.of(1, places);
        for (int drop = 1; drop < places; drop++) {
          clock.pour(0, drop);
        }
        Clocks.steps(clock, 0, Clocks.SEND, 0, value);
        clock.run(1);
        Checks.same("held of " + places, clock.held(0), places);
        Checks.same("the last drop", clock.valueAt(0, places - 1), value);
        Checks.same("the sender's state", clock.stateOf(0), Clocks.DONE);
        Checks.same("its steps", clock.stepsDone(0), 1);
      }
    }
  }

  private static void waitsToSendWithoutRoom() {
    for (int places = 1; places <= 4; places++) {
      WaterFibers clock = Clocks.of(1, places);
      for (int drop = 1; drop <= places; drop++) {
        clock.pour(0, drop);
      }
      Clocks.steps(clock, 0, Clocks.SEND, 0, 9);
      clock.run(5);
      Checks.same("held of " + places, clock.held(0), places);
      Checks.same("the last drop", clock.valueAt(0, places - 1), places);
      Checks.same("the sender's state", clock.stateOf(0), Clocks.WAITS_TO_SEND);
      Checks.same("sendersAt(0)", clock.sendersAt(0), 1);
      Checks.same("takersAt(0)", clock.takersAt(0), 0);
      Checks.same("its steps", clock.stepsDone(0), 0);
      Checks.same("its place", clock.placeOf(0), 0);
    }
  }

  private static void takesTheLastDrop() {
    for (int value : new int[] {-999, -1, 0, 1, 999}) {
      WaterFibers clock = Clocks.of(1, 4);
      clock.pour(0, value);
      Clocks.steps(clock, 0, Clocks.TAKE, 0, 0);
      clock.run(1);
      Checks.same("sumOf(0)", clock.sumOf(0), value);
      Checks.same("held(0)", clock.held(0), 0);
      Checks.same("the taker's state", clock.stateOf(0), Clocks.DONE);
      Checks.same("its steps", clock.stepsDone(0), 1);
    }
  }

  private static void waitsToTakeWithoutADrop() {
    for (int places = 1; places <= 4; places++) {
      WaterFibers clock = Clocks.of(1, places);
      Clocks.steps(clock, 0, Clocks.TAKE, 0, 0);
      clock.run(5);
      Checks.same("the taker's state", clock.stateOf(0), Clocks.WAITS_TO_TAKE);
      Checks.same("takersAt(0)", clock.takersAt(0), 1);
      Checks.same("sendersAt(0)", clock.sendersAt(0), 0);
      Checks.same("sumOf(0)", clock.sumOf(0), 0);
      Checks.same("its steps", clock.stepsDone(0), 0);
      Checks.same("its place", clock.placeOf(0), 0);
    }
  }

  private static void sleepsOneToTwenty() {
    for (int turns = 1; turns <= 20; turns++) {
      WaterFibers clock = Clocks.of(1);
      clock.run(7);
      Clocks.steps(clock, 0, Clocks.SLEEP, turns, 0, Clocks.GIVE_WAY, 0, 0, Clocks.GIVE_WAY, 0, 0);
      Checks.same("idle turns while it sleeps " + turns, clock.run(turns), turns - 1);
      Checks.same("its state then", clock.stateOf(0), Clocks.SLEEPS);
      Checks.same("its place then", clock.placeOf(0), 1);
      Checks.same("the turn that is " + turns + " behind is its own", clock.run(1), 0);
      Checks.same("its place behind that", clock.placeOf(0), 2);
      Checks.same("its turns", clock.turnsOf(0), 2);
    }
  }

  private static void twoMeansNothing() {
    for (int two : Bounds.any()) {
      WaterFibers clock = Clocks.of(3, 1);
      clock.pour(0, 6);
      Clocks.steps(clock, 0, Clocks.TAKE, 0, two);
      Clocks.steps(clock, 1, Clocks.SLEEP, 2, two);
      Clocks.steps(clock, 2, Clocks.WAIT_FOR, 1, two);
      clock.run(3);
      Checks.same("sumOf(0)", clock.sumOf(0), 6);
      Checks.sameText("one took, one sleeps, one waits", Clocks.states(clock), "534");
      clock.run(2);
      Checks.sameText("all are done", Clocks.states(clock), "555");
    }
  }

  private static void givesWayAtEachPlace() {
    for (int before = 0; before <= 4; before++) {
      WaterFibers clock = Clocks.of(1, 4);
      for (int step = 0; step < before; step++) {
        clock.addStep(0, Clocks.SEND, 0, step);
      }
      Clocks.steps(clock, 0, Clocks.GIVE_WAY, 0, 0, Clocks.TAKE, 0, 0);
      clock.run(1);
      Checks.same("steps with " + before + " ahead", clock.stepsDone(0), Math.min(before + 1, 4));
      Checks.same("its state", clock.stateOf(0), Clocks.READY);
      Checks.same("next()", clock.next(), 0);
      clock.run(1);
      Checks.same("steps then", clock.stepsDone(0), before == 0 ? 1 : before < 4 ? before + 2 : 5);
    }
  }

  private static void oneAndTwoMeanNothing() {
    for (int one : Bounds.any()) {
      for (int two : Bounds.any()) {
        WaterFibers clock = Clocks.of(1);
        Checks.same("addStep(0, 3, " + one + ", " + two + ")",
            clock.addStep(0, Clocks.GIVE_WAY, one, two), 0);
        clock.addStep(0, Clocks.GIVE_WAY, one, two);
        clock.run(1);
        Checks.same("its place", clock.placeOf(0), 1);
        clock.run(1);
        Checks.same("its state", clock.stateOf(0), Clocks.DONE);
      }
    }
  }

  private static void waitsForOneThatIsNotDone() {
    for (int waited : new int[] {0, 3, 7}) {
      int waits = waited == 3 ? 4 : 3;
      WaterFibers done = Clocks.of(8);
      Clocks.steps(done, waits, Clocks.WAIT_FOR, waited, 0);
      done.run(1);
      Checks.same("its state, if " + waited + " is done", done.stateOf(waits), Clocks.DONE);
      WaterFibers ready = Clocks.of(8);
      Clocks.steps(ready, waits, Clocks.WAIT_FOR, waited, 0);
      Clocks.steps(ready, waited, Clocks.GIVE_WAY, 0, 0);
      ready.run(1);
      Checks.same("its state, if " + waited + " is ready", ready.stateOf(waits),
          Clocks.WAITS_FOR_FIBER);
    }
    for (int waited = 0; waited < 7; waited++) {
      WaterFibers clock = Clocks.busy();
      int waits = clock.addFiber();
      clock.addStep(waits, Clocks.WAIT_FOR, waited, 0);
      int state = clock.stateOf(waited);
      clock.run(2);
      Checks.same("its state, if " + waited + " was in the state " + state, clock.stateOf(waits),
          state == Clocks.DONE ? Clocks.DONE : Clocks.WAITS_FOR_FIBER);
    }
  }

  private static void waitingIsNoStep() {
    WaterFibers clock = Clocks.of(2);
    Clocks.steps(clock, 0, Clocks.WAIT_FOR, 1, 0);
    Clocks.steps(clock, 1, Clocks.SLEEP, 3, 0);
    clock.run(4);
    Checks.same("placeOf(0) while it waits", clock.placeOf(0), 0);
    Checks.same("stepsDone(0) while it waits", clock.stepsDone(0), 0);
    Checks.same("turnsOf(0) while it waits", clock.turnsOf(0), 1);
    clock.run(1);
    Checks.sameText("the other one is done, and 0 is ready", Clocks.states(clock), "05");
    Checks.same("placeOf(0) ahead of its turn", clock.placeOf(0), 0);
    Checks.same("stepsDone(0) ahead of its turn", clock.stepsDone(0), 0);
    clock.addStep(1, Clocks.GIVE_WAY, 0, 0);
    clock.run(1);
    Checks.sameText("the other one is not done again, and 0 waits", Clocks.states(clock), "40");
    Checks.same("stepsDone(0) while it waits again", clock.stepsDone(0), 0);
    clock.run(2);
    Checks.sameText("both are done", Clocks.states(clock), "55");
    Checks.same("placeOf(0) then", clock.placeOf(0), 1);
    Checks.same("stepsDone(0) then", clock.stepsDone(0), 1);
    Checks.same("turnsOf(0) then", clock.turnsOf(0), 3);
  }

  private static void goesBackToItselfOrTheFirst() {
    for (int number = 0; number < 12; number++) {
      for (int to : new int[] {0, number}) {
        WaterFibers clock = Clocks.of(1);
        for (int step = 0; step < number; step++) {
          clock.addStep(0, Clocks.GIVE_WAY, 0, 0);
        }
        clock.addStep(0, Clocks.GO_BACK, to, 1);
        clock.run(60);
        String what = "steps with " + number + " ahead, and back to " + to;
        Checks.same(what, clock.stepsDone(0), number + 1 + number - to + 1);
        Checks.same("its state", clock.stateOf(0), Clocks.DONE);
      }
    }
  }

  private static void goesBackOneToNineTimes() {
    for (int times = 1; times <= 9; times++) {
      WaterFibers clock = Clocks.of(1);
      Clocks.steps(clock, 0, Clocks.GIVE_WAY, 0, 0, Clocks.GO_BACK, 0, times,
          Clocks.GIVE_WAY, 0, 0);
      for (int turn = 1; turn <= times + 1; turn++) {
        clock.run(1);
        Checks.same("placeOf(0) in the turn " + turn + " of " + times, clock.placeOf(0), 1);
        Checks.same("stepsDone(0)", clock.stepsDone(0), 2 * turn - 1);
      }
      clock.run(1);
      Checks.same("placeOf(0) behind " + times + " times", clock.placeOf(0), 3);
      Checks.same("stepsDone(0) then", clock.stepsDone(0), 2 * times + 3);
      Checks.same("its state", clock.stateOf(0), Clocks.DONE);
    }
  }

  private static void countsAnew() {
    for (int times = 1; times <= 9; times++) {
      WaterFibers clock = Clocks.of(1);
      Clocks.steps(clock, 0, Clocks.GIVE_WAY, 0, 0, Clocks.GO_BACK, 0, times,
          Clocks.GO_BACK, 0, 9);
      clock.run(60);
      clock.run(60);
      int inner = 10 * (times + 1);
      Checks.same("steps, 10 rounds of " + times, clock.stepsDone(0), 2 * inner + 10);
      Checks.same("its turns", clock.turnsOf(0), inner + 1);
      Checks.same("its state", clock.stateOf(0), Clocks.DONE);
    }
  }

  private static void sendsTheSumItHas() {
    WaterFibers fresh = Clocks.of(1, 1);
    Clocks.steps(fresh, 0, Clocks.SEND_SUM, 0, 0);
    fresh.run(1);
    Checks.sameText("a sum of 0", Clocks.drops(fresh, 0), "0");
    sendsFarSum(1, "2147483647");
    sendsFarSum(-1, "-2147483647");
    WaterFibers least = Clocks.nearTheEnd(1);
    least.pour(0, 1);
    least.run(2);
    least.pour(0, 1);
    least.run(2);
    least.pour(0, 0);
    least.run(1);
    Checks.sameText("the least int", Clocks.drops(least, 1), "-2147483648");
  }

  /** Behind a unit more the sum takes two drops of 0 to be sent. */
  private static void sendsFarSum(int unit, String due) {
    WaterFibers clock = Clocks.nearTheEnd(unit);
    for (int drop : new int[] {unit, 0, 0}) {
      clock.pour(0, drop);
      clock.run(2);
    }
    Checks.sameText("a far sum", Clocks.drops(clock, 1), due);
  }

  private static void sendsTheSumAsTheKindZero() {
    for (int two : Bounds.any()) {
      WaterFibers clock = Clocks.of(3, 2);
      clock.pour(0, 5);
      Clocks.steps(clock, 0, Clocks.SEND_SUM, 0, two);
      Clocks.steps(clock, 1, Clocks.SEND_SUM, 0, two);
      clock.run(1);
      Checks.sameText("into the last place", Clocks.drops(clock, 0), "5 0");
      Checks.same("then it is done", clock.stateOf(0), Clocks.DONE);
      clock.run(1);
      Checks.same("without room it waits to send", clock.stateOf(1), Clocks.WAITS_TO_SEND);
      Checks.same("sendersAt(0)", clock.sendersAt(0), 1);
      Checks.same("the step is not done", clock.stepsDone(1) + clock.placeOf(1), 0);
      Clocks.steps(clock, 2, Clocks.TAKE, 0, 0);
      clock.run(2);
      Checks.sameText("it sends as there is room", Clocks.drops(clock, 0), "0 0");
    }
  }

  private static void eachKindMovesThePlace() {
    int[][] steps = {
      {Clocks.SEND, 0, 1}, {Clocks.TAKE, 0, 0}, {Clocks.SLEEP, 1, 0}, {Clocks.GIVE_WAY, 0, 0},
      {Clocks.WAIT_FOR, 1, 0}, {Clocks.SEND_SUM, 0, 0},
    };
    for (int[] step : steps) {
      WaterFibers clock = Clocks.of(2, 4);
      clock.pour(0, 1);
      Clocks.steps(clock, 0, Clocks.GIVE_WAY, 0, 0, step[0], step[1], step[2], Clocks.GIVE_WAY, 0, 0,
          Clocks.GIVE_WAY, 0, 0);
      boolean endsTheTurn = step[0] == Clocks.SLEEP || step[0] == Clocks.GIVE_WAY;
      clock.run(2);
      Checks.same("the kind " + step[0], clock.placeOf(0), endsTheTurn ? 2 : 3);
      Checks.same("its steps", clock.stepsDone(0), endsTheTurn ? 2 : 3);
    }
    WaterFibers clock = Clocks.of(1);
    Clocks.steps(clock, 0, Clocks.GIVE_WAY, 0, 0, Clocks.GIVE_WAY, 0, 0, Clocks.GO_BACK, 1, 1);
    clock.run(3);
    Checks.same("going back to 1, and from there on", clock.placeOf(0), 2);
    Checks.same("going back is a step that was done", clock.stepsDone(0), 4);
  }
}
