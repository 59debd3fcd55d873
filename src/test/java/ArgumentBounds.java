/** What the promises say of each argument: which of them names what. */
final class ArgumentBounds {
  private static final String CHANNEL = "`channel`: a channel";
  private static final String FIBER = "`fiber`: a fiber";

  private ArgumentBounds() {
  }

  static void hold(Sentences sentences) {
    sentences.hold(2, "`places`: how many places a new channel has", ArgumentBounds::placesOfAChannel);
    sentences.hold(4, "`fiber`: the fiber", ArgumentBounds::fiberOfAStep);
    sentences.hold(4, "`kind`: the kind of the step", ArgumentBounds::kindOfAStep);
    sentences.hold(4, "`one`: its first number", ArgumentBounds::firstNumberOfAStep);
    sentences.hold(4, "`two`: its second number", ArgumentBounds::secondNumberOfAStep);
    sentences.hold(5, "`channel`: the channel", ArgumentBounds::channelPouredInto);
    sentences.hold(5, "`value`: its value", ArgumentBounds::valuePoured);
    sentences.hold(6, "`turns`: how many", ArgumentBounds::turnsThatGoBy);
    sentences.hold(14, CHANNEL, ArgumentBounds::channelHeld);
    sentences.hold(15, CHANNEL, ArgumentBounds::channelOfAValue);
    sentences.hold(16, CHANNEL, ArgumentBounds::channelOfSenders);
    sentences.hold(17, CHANNEL, ArgumentBounds::channelOfTakers);
    sentences.hold(27, CHANNEL, ArgumentBounds::channelOfPlaces);
    sentences.hold(18, FIBER, ArgumentBounds::fiberOfAState);
    sentences.hold(19, FIBER, () -> fiberGivesWay(Calls.PLACE_OF));
    sentences.hold(20, FIBER, ArgumentBounds::fiberOfASum);
    sentences.hold(21, FIBER, () -> fiberGivesWay(Calls.STEPS_DONE));
    sentences.hold(22, FIBER, () -> fiberGivesWay(Calls.TURNS_OF));
    sentences.hold(23, FIBER, () -> fiberInLine(Calls.PLACE_IN_LINE, 0));
    sentences.hold(24, FIBER, () -> fiberInLine(Calls.TURNS_UNTIL_DONE, 1));
    sentences.hold(26, FIBER, ArgumentBounds::fiberOfALaterSum);
    sentences.hold(26, "`turns`: how many turns", ArgumentBounds::turnsOfALaterSum);
  }

  private static void placesOfAChannel() {
    WaterFibers clock = Clocks.of(0, 3, 1, 4, 2);
    int[] places = {3, 1, 4, 2};
    for (int channel = 0; channel < 4; channel++) {
      for (int drops = 1; drops <= places[channel]; drops++) {
        Checks.same("pour(" + channel + ", 5)", clock.pour(channel, 5), drops);
      }
      int number = channel;
      Checks.wrongState("pour(" + channel + ", 5), full", () -> clock.pour(number, 5));
    }
  }

  private static void fiberOfAStep() {
    for (int fiber = 0; fiber < 8; fiber++) {
      WaterFibers clock = Clocks.of(8);
      clock.addStep(fiber, Clocks.GIVE_WAY, 0, 0);
      for (int other = 0; other < 8; other++) {
        Checks.same("stateOf(" + other + "), the step is of " + fiber, clock.stateOf(other),
            other == fiber ? Clocks.READY : Clocks.DONE);
      }
    }
  }

  /** A clock whose fiber 1 does a step with the same numbers, 1 and 2, of each kind. */
  private static WaterFibers withStep(int kind) {
    WaterFibers clock = Clocks.of(3, 2, 2, 2);
    clock.pour(1, 30);
    Clocks.steps(clock, 2, Clocks.SLEEP, 9, 0);
    Clocks.steps(clock, 1, Clocks.GIVE_WAY, 0, 0, kind, kind == Clocks.WAIT_FOR ? 2 : 1, 2,
        Clocks.GIVE_WAY, 0, 0);
    clock.run(3);
    return clock;
  }

  private static void kindOfAStep() {
    String[] drops = {"30 2", "", "30", "30", "30", "30", "30 0"};
    int[] states = {Clocks.DONE, Clocks.DONE, Clocks.SLEEPS, Clocks.READY, Clocks.WAITS_FOR_FIBER,
        Clocks.DONE, Clocks.DONE};
    int[] steps = {3, 3, 2, 2, 1, 5, 3};
    for (int kind = 0; kind <= 6; kind++) {
      WaterFibers clock = withStep(kind);
      Checks.sameText("the drops by the kind " + kind, Clocks.drops(clock, 1), drops[kind]);
      Checks.same("the state by the kind " + kind, clock.stateOf(1), states[kind]);
      Checks.same("the steps by the kind " + kind, clock.stepsDone(1), steps[kind]);
    }
  }

  private static void firstNumberOfAStep() {
    for (int one = 0; one < 4; one++) {
      WaterFibers sent = Clocks.of(1, 1, 1, 1, 1);
      Clocks.steps(sent, 0, Clocks.SEND, one, 3 - one);
      sent.run(1);
      Checks.sameText("sent into " + one, Clocks.drops(sent, one), String.valueOf(3 - one));
      WaterFibers slept = Clocks.of(1);
      Clocks.steps(slept, 0, Clocks.SLEEP, one + 1, 9 - one);
      Checks.same("asleep for " + (one + 1), slept.turnsUntilDone(0), one + 2);
      WaterFibers back = Clocks.of(1);
      for (int step = 0; step < 4; step++) {
        back.addStep(0, Clocks.GIVE_WAY, 0, 0);
      }
      Clocks.steps(back, 0, Clocks.GO_BACK, one, 2, Clocks.GIVE_WAY, 0, 0);
      back.run(60);
      Checks.same("back to " + one, back.stepsDone(0), 4 + 2 * (1 + 4 - one) + 2);
    }
  }

  private static void secondNumberOfAStep() {
    for (int two = 1; two <= 4; two++) {
      WaterFibers sent = Clocks.of(1, 1, 1, 1, 1);
      Clocks.steps(sent, 0, Clocks.SEND, 4 - two, two);
      sent.run(1);
      Checks.sameText("a drop of " + two, Clocks.drops(sent, 4 - two), String.valueOf(two));
      WaterFibers back = Clocks.of(1);
      Clocks.steps(back, 0, Clocks.GIVE_WAY, 0, 0, Clocks.GIVE_WAY, 0, 0, Clocks.GO_BACK, 1, two);
      back.run(60);
      Checks.same("back " + two + " times", back.stepsDone(0), 3 + 2 * two);
    }
  }

  private static void channelPouredInto() {
    for (int channel = 0; channel < 4; channel++) {
      WaterFibers clock = Clocks.of(0, 1, 1, 1, 1);
      clock.pour(channel, 3 - channel);
      for (int other = 0; other < 4; other++) {
        Checks.same("held(" + other + "), poured into " + channel, clock.held(other),
            other == channel ? 1 : 0);
      }
    }
  }

  private static void valuePoured() {
    for (int value = 0; value < 4; value++) {
      WaterFibers clock = Clocks.of(0, 1, 1, 1, 1);
      clock.pour(3 - value, value);
      Checks.same("valueAt(" + (3 - value) + ", 0)", clock.valueAt(3 - value, 0), value);
    }
  }

  private static void turnsThatGoBy() {
    WaterFibers clock = new WaterFibers();
    int time = 0;
    for (int turns = 1; turns <= 60; turns++) {
      clock.run(turns);
      time += turns;
      Checks.same("time() behind run(" + turns + ")", clock.time(), time);
    }
  }

  /** The channel i has 4 places, and holds i drops, 10 * i + j being the value of its drop j. */
  private static WaterFibers unlike() {
    WaterFibers clock = Clocks.of(0, 4, 4, 4, 4);
    for (int channel = 0; channel < 4; channel++) {
      for (int drop = 0; drop < channel; drop++) {
        clock.pour(channel, 10 * channel + drop);
      }
    }
    return clock;
  }

  private static void channelHeld() {
    for (int channel = 0; channel < 4; channel++) {
      Checks.same("held(" + channel + ")", unlike().held(channel), channel);
    }
  }

  private static void channelOfAValue() {
    for (int channel = 0; channel < 4; channel++) {
      for (int drop = 0; drop < channel; drop++) {
        Checks.same("valueAt(" + channel + ", " + drop + ")", unlike().valueAt(channel, drop),
            10 * channel + drop);
      }
    }
  }

  /** Of 8 fibers each of 0 to 3 waits for the channel 3, of 4 to 6 for 2, and 7 for 0. */
  private static WaterFibers allWait(int kind) {
    WaterFibers clock = Clocks.of(8, 1, 1, 1, 1);
    for (int channel = 0; channel < 4 && kind == Clocks.SEND; channel++) {
      clock.pour(channel, 1);
    }
    for (int fiber = 0; fiber < 8; fiber++) {
      clock.addStep(fiber, kind, fiber < 4 ? 3 : fiber < 7 ? 2 : 0, 1);
    }
    clock.run(8);
    return clock;
  }

  private static void channelOfSenders() {
    int[] due = {1, 0, 3, 4};
    for (int channel = 0; channel < 4; channel++) {
      Checks.same("sendersAt(" + channel + ")", allWait(Clocks.SEND).sendersAt(channel), due[channel]);
    }
  }

  private static void channelOfTakers() {
    int[] due = {1, 0, 3, 4};
    for (int channel = 0; channel < 4; channel++) {
      Checks.same("takersAt(" + channel + ")", allWait(Clocks.TAKE).takersAt(channel), due[channel]);
    }
  }

  private static void channelOfPlaces() {
    int[] places = {2, 4, 1, 3};
    for (int channel = 0; channel < 4; channel++) {
      Checks.same("placesWanted(" + channel + ")", Clocks.of(1, 2, 4, 1, 3).placesWanted(channel),
          places[channel]);
    }
  }

  private static void fiberOfAState() {
    int[] due = {1, 2, 2, 3, 4, 0, 5};
    for (int fiber = 0; fiber < 7; fiber++) {
      Checks.same("stateOf(" + fiber + ")", Clocks.busy().stateOf(fiber), due[fiber]);
    }
  }

  /** The fiber i gives way i + 1 times, which are as many steps and turns, and its place then. */
  private static void fiberGivesWay(int question) {
    WaterFibers clock = Clocks.of(8);
    for (int fiber = 0; fiber < 8; fiber++) {
      for (int step = 0; step <= fiber; step++) {
        clock.addStep(fiber, Clocks.GIVE_WAY, 0, 0);
      }
    }
    clock.run(36);
    for (int fiber = 0; fiber < 8; fiber++) {
      Checks.same("of " + fiber, Calls.make(clock, new int[] {question, fiber, 0, 0, 0}), fiber + 1);
    }
  }

  private static void fiberOfASum() {
    WaterFibers clock = Clocks.of(8, 1);
    for (int fiber = 0; fiber < 8; fiber++) {
      clock.pour(0, 10 + fiber);
      clock.addStep(fiber, Clocks.TAKE, 0, 0);
      clock.run(1);
    }
    for (int fiber = 0; fiber < 8; fiber++) {
      Checks.same("sumOf(" + fiber + ")", clock.sumOf(fiber), 10 + fiber);
    }
  }

  /** The line is 7, 6 and so on to 0. */
  private static void fiberInLine(int question, int ofTheFirst) {
    WaterFibers clock = Clocks.of(8);
    for (int fiber = 7; fiber >= 0; fiber--) {
      clock.addStep(fiber, Clocks.GIVE_WAY, 0, 0);
    }
    for (int fiber = 0; fiber < 8; fiber++) {
      Checks.same("of " + fiber, Calls.make(clock, new int[] {question, fiber, 0, 0, 0}),
          ofTheFirst + 7 - fiber);
    }
  }

  private static void fiberOfALaterSum() {
    WaterFibers clock = Clocks.of(8, 4);
    for (int fiber = 0; fiber < 8; fiber++) {
      clock.addStep(fiber, Clocks.TAKE, 0, 0);
    }
    for (int drop = 0; drop < 4; drop++) {
      clock.pour(0, 10 + drop);
    }
    for (int fiber = 0; fiber < 8; fiber++) {
      Checks.same("sumIn(" + fiber + ", 9)", clock.sumIn(fiber, 9), fiber < 4 ? 10 + fiber : 0);
    }
  }

  private static void turnsOfALaterSum() {
    WaterFibers clock = Clocks.of(4, 4);
    for (int drop = 0; drop < 4; drop++) {
      clock.pour(0, 5);
      Clocks.steps(clock, 3, Clocks.TAKE, 0, 0, Clocks.GIVE_WAY, 0, 0);
    }
    for (int turns = 1; turns <= 60; turns++) {
      Checks.same("sumIn(3, " + turns + ")", clock.sumIn(3, turns), 5 * Math.min(turns, 4));
    }
  }
}
