/** Promises 1 to 5: a new object, addChannel, addFiber, addStep, pour. */
final class SetupTests {
  public static void main(String[] args) {
    newObject();
    objectsAreApart();
    addChannel();
    addChannelThrows();
    addFiber();
    addStepNumbers();
    addStepMakesReady();
    addStepToOneThatWaits();
    addStepTakesTheEdges();
    addStepFiberWrong();
    addStepArgumentsWrong();
    addStepChannelsAndFibersWrong();
    addStepFull();
    pour();
    pourWakesTaker();
    pourThrows();
    Checks.end("SetupTests");
  }

  private static void newObject() {
    WaterFibers clock = new WaterFibers();
    Checks.same("P1 time()", clock.time(), 0);
    Checks.same("P1 channels()", clock.channels(), 0);
    Checks.same("P1 fibers()", clock.fibers(), 0);
    Checks.same("P1 done()", clock.done(), 0);
    Checks.same("P1 idleTurns()", clock.idleTurns(), 0);
    Checks.same("P1 next()", clock.next(), -1);
    Checks.no("P1 isStuck()", clock.isStuck());
    Checks.noSuchIndex("P1 held(0)", () -> clock.held(0));
    Checks.noSuchIndex("P1 stateOf(0)", () -> clock.stateOf(0));
  }

  private static void objectsAreApart() {
    WaterFibers one = Clocks.of(1, 2);
    WaterFibers other = new WaterFibers();
    one.pour(0, 3);
    one.run(5);
    Checks.same("P1 time() of another", other.time(), 0);
    Checks.same("P1 channels() of another", other.channels(), 0);
    Checks.same("P1 fibers() of another", other.fibers(), 0);
  }

  private static void addChannel() {
    WaterFibers clock = new WaterFibers();
    for (int places = 1; places <= 4; places++) {
      Checks.same("P2 addChannel(" + places + ")", clock.addChannel(places), places - 1);
    }
    for (int channel = 0; channel < 4; channel++) {
      int number = channel;
      for (int held = 1; held <= channel + 1; held++) {
        Checks.same("P2 pour into the channel " + channel, clock.pour(channel, held), held);
      }
      Checks.wrongState("P2 pour into the full channel " + channel, () -> clock.pour(number, 0));
    }
  }

  private static void addChannelThrows() {
    WaterFibers clock = new WaterFibers();
    for (int places : new int[] {0, 5, -1, Integer.MIN_VALUE, Integer.MAX_VALUE}) {
      Checks.wrongArgument("P2 addChannel(" + places + ")", () -> clock.addChannel(places));
      Checks.same("P2 channels() behind it", clock.channels(), 0);
    }
    for (int i = 0; i < 4; i++) {
      clock.addChannel(1);
    }
    Checks.wrongState("P2 a fifth channel", () -> clock.addChannel(1));
    Checks.wrongArgument("P2 a fifth channel of 0 places", () -> clock.addChannel(0));
    Checks.wrongArgument("P2 a fifth channel of 5 places", () -> clock.addChannel(5));
    Checks.same("P2 channels() when full", clock.channels(), 4);
  }

  private static void addFiber() {
    WaterFibers clock = new WaterFibers();
    for (int fiber = 0; fiber < 8; fiber++) {
      Checks.same("P3 addFiber()", clock.addFiber(), fiber);
      Checks.same("P3 its state", clock.stateOf(fiber), Clocks.DONE);
      Checks.same("P3 its place", clock.placeOf(fiber), 0);
      Checks.same("P3 its sum", clock.sumOf(fiber), 0);
    }
    Checks.wrongState("P3 a ninth fiber", clock::addFiber);
    Checks.same("P3 fibers() when full", clock.fibers(), 8);
    Checks.same("P3 none is in the line", clock.next(), -1);
  }

  private static void addStepNumbers() {
    WaterFibers clock = Clocks.of(2, 1);
    for (int step = 0; step < 12; step++) {
      Checks.same("P4 addStep(1, 3, ..)", clock.addStep(1, Clocks.GIVE_WAY, 0, 0), step);
    }
    Checks.same("P4 the first step of another", clock.addStep(0, Clocks.GIVE_WAY, 0, 0), 0);
  }

  private static void addStepMakesReady() {
    WaterFibers clock = Clocks.of(3);
    clock.addStep(2, Clocks.GIVE_WAY, 0, 0);
    Checks.sameText("P4 states", Clocks.states(clock), "550");
    clock.addStep(0, Clocks.GIVE_WAY, 0, 0);
    Checks.sameText("P4 the later one is behind", Clocks.line(clock), "20");
    clock.addStep(2, Clocks.GIVE_WAY, 0, 0);
    Checks.sameText("P4 one that is ready keeps its place in line", Clocks.line(clock), "20");
    clock.run(3);
    Checks.sameText("P4 all did their steps", Clocks.states(clock), "555");
    clock.addStep(2, Clocks.GIVE_WAY, 0, 0);
    Checks.sameText("P4 one that was done is ready", Clocks.states(clock), "550");
    Checks.same("P4 it goes on at the new step", clock.placeOf(2), 2);
    Checks.same("P4 it is in the line", clock.next(), 2);
  }

  private static void addStepToOneThatWaits() {
    WaterFibers clock = Clocks.of(4, 1);
    clock.pour(0, 1);
    Clocks.steps(clock, 0, Clocks.SEND, 0, 1);
    Clocks.steps(clock, 1, Clocks.SLEEP, 9, 0);
    Clocks.steps(clock, 2, Clocks.WAIT_FOR, 0, 0);
    clock.run(3);
    Checks.sameText("P4 states", Clocks.states(clock), "1345");
    for (int fiber = 0; fiber < 3; fiber++) {
      clock.addStep(fiber, Clocks.GIVE_WAY, 0, 0);
    }
    Checks.sameText("P4 a step changes no state but done", Clocks.states(clock), "1345");
    Checks.same("P4 next()", clock.next(), -1);
  }

  private static void addStepTakesTheEdges() {
    WaterFibers clock = Clocks.of(8, 1, 1, 1, 1);
    int[][] steps = {
      {0, 0, -999}, {0, 3, 999}, {1, 3, 1000}, {1, 0, Integer.MIN_VALUE}, {2, 1, 77}, {2, 20, -5},
      {3, -1, Integer.MAX_VALUE}, {4, 0, -1}, {4, 7, 1000}, {5, 9, 1}, {5, 0, 9}, {6, 3, 5000},
    };
    for (int i = 0; i < steps.length; i++) {
      Checks.same("P4 the step " + i, clock.addStep(3, steps[i][0], steps[i][1], steps[i][2]), i);
    }
    for (int step = 0; step < 12; step++) {
      Checks.same("P4 back to itself", clock.addStep(4, Clocks.GO_BACK, step, 9), step);
    }
  }

  private static void addStepFiberWrong() {
    WaterFibers clock = Clocks.of(2);
    for (int fiber : new int[] {2, 8, -1, Integer.MIN_VALUE, Integer.MAX_VALUE}) {
      Checks.noSuchIndex("P4 addStep(" + fiber + ", 3, 0, 0)",
          () -> clock.addStep(fiber, Clocks.GIVE_WAY, 0, 0));
      Checks.noSuchIndex("P4 addStep(" + fiber + ", 7, 0, 0), wrong twice",
          () -> clock.addStep(fiber, 7, 0, 0));
    }
  }

  private static void addStepArgumentsWrong() {
    WaterFibers clock = Clocks.of(1, 1);
    String before = Clocks.shown(clock);
    int[][] wrong = {
      {-1, 0, 0}, {7, 0, 0}, {Integer.MIN_VALUE, 0, 0}, {Integer.MAX_VALUE, 0, 0},
      {0, 0, 1000}, {0, 0, -1000}, {0, 0, Integer.MIN_VALUE}, {0, 0, Integer.MAX_VALUE},
      {2, 0, 0}, {2, 21, 0}, {2, -1, 0}, {2, Integer.MAX_VALUE, 0},
      {5, 1, 1}, {5, -1, 1}, {5, 0, 0}, {5, 0, 10}, {5, 0, -1}, {5, Integer.MAX_VALUE, 1},
    };
    for (int[] step : wrong) {
      Checks.wrongArgument("P4 addStep(0, " + step[0] + ", " + step[1] + ", " + step[2] + ")",
          () -> clock.addStep(0, step[0], step[1], step[2]));
    }
    Checks.sameText("P4 nothing changed", Clocks.shown(clock), before);
    Checks.same("P4 the number of the first step", clock.addStep(0, Clocks.GO_BACK, 0, 1), 0);
    Checks.wrongArgument("P4 addStep(0, 5, 2, 1)", () -> clock.addStep(0, Clocks.GO_BACK, 2, 1));
    Checks.same("P4 addStep(0, 5, 1, 1)", clock.addStep(0, Clocks.GO_BACK, 1, 1), 1);
  }

  private static void addStepChannelsAndFibersWrong() {
    WaterFibers clock = Clocks.of(3, 1, 1);
    for (int kind : new int[] {Clocks.SEND, Clocks.TAKE, Clocks.SEND_SUM}) {
      for (int channel : new int[] {2, 3, 4, -1, Integer.MIN_VALUE, Integer.MAX_VALUE}) {
        Checks.wrongArgument("P4 addStep(0, " + kind + ", " + channel + ", 0)",
            () -> clock.addStep(0, kind, channel, 0));
      }
    }
    for (int fiber : new int[] {1, 3, 7, 8, -1, Integer.MIN_VALUE, Integer.MAX_VALUE}) {
      Checks.wrongArgument("P4 addStep(1, 4, " + fiber + ", 0)",
          () -> clock.addStep(1, Clocks.WAIT_FOR, fiber, 0));
    }
    Checks.same("P4 next()", clock.next(), -1);
  }

  private static void addStepFull() {
    WaterFibers clock = Clocks.of(1, 1);
    for (int step = 0; step < 12; step++) {
      clock.addStep(0, Clocks.GIVE_WAY, 0, 0);
    }
    Checks.wrongState("P4 a thirteenth step", () -> clock.addStep(0, Clocks.GIVE_WAY, 0, 0));
    Checks.wrongState("P4 a thirteenth step that goes back to itself",
        () -> clock.addStep(0, Clocks.GO_BACK, 12, 9));
    Checks.wrongArgument("P4 a thirteenth step that goes back behind itself",
        () -> clock.addStep(0, Clocks.GO_BACK, 13, 9));
    Checks.wrongArgument("P4 a thirteenth step of no kind", () -> clock.addStep(0, 7, 0, 0));
    clock.run(12);
    Checks.same("P4 its steps are 12", clock.placeOf(0), 12);
    Checks.same("P4 it is done", clock.stateOf(0), Clocks.DONE);
    Checks.wrongState("P4 a thirteenth step, done", () -> clock.addStep(0, Clocks.GIVE_WAY, 0, 0));
    Checks.same("P4 it is done still", clock.stateOf(0), Clocks.DONE);
  }

  private static void pour() {
    WaterFibers clock = Clocks.of(0, 4, 1);
    Checks.same("P5 pour(0, 999)", clock.pour(0, 999), 1);
    Checks.same("P5 pour(0, -999)", clock.pour(0, -999), 2);
    Checks.same("P5 pour(1, 0)", clock.pour(1, 0), 1);
    Checks.same("P5 pour(0, 7)", clock.pour(0, 7), 3);
    Checks.same("P5 pour(0, 8)", clock.pour(0, 8), 4);
    Checks.sameText("P5 drops of 0", Clocks.drops(clock, 0), "999 -999 7 8");
    Checks.sameText("P5 drops of 1", Clocks.drops(clock, 1), "0");
    Checks.same("P5 no turn goes by", clock.time(), 0);
  }

  private static void pourWakesTaker() {
    WaterFibers clock = Clocks.of(3, 4);
    Clocks.steps(clock, 2, Clocks.TAKE, 0, 0);
    Clocks.steps(clock, 1, Clocks.TAKE, 0, 0);
    Clocks.steps(clock, 0, Clocks.TAKE, 0, 0);
    clock.run(3);
    Checks.sameText("P5 all wait to take", Clocks.states(clock), "222");
    clock.pour(0, 5);
    Checks.sameText("P5 the one that waited longest is ready", Clocks.states(clock), "220");
    Checks.same("P5 the drop is held till it is taken", clock.held(0), 1);
    clock.pour(0, 6);
    Checks.sameText("P5 then the next one", Clocks.line(clock), "21");
    clock.run(2);
    Checks.same("P5 what 2 took", clock.sumOf(2), 5);
    Checks.same("P5 what 1 took", clock.sumOf(1), 6);
    Checks.same("P5 0 waits still", clock.stateOf(0), Clocks.WAITS_TO_TAKE);
  }

  private static void pourThrows() {
    WaterFibers clock = Clocks.of(0, 1, 2);
    clock.pour(0, 1);
    for (int channel : new int[] {2, 4, -1, Integer.MIN_VALUE, Integer.MAX_VALUE}) {
      Checks.noSuchIndex("P5 pour(" + channel + ", 0)", () -> clock.pour(channel, 0));
      Checks.noSuchIndex("P5 pour(" + channel + ", 1000)", () -> clock.pour(channel, 1000));
    }
    for (int value : new int[] {1000, -1000, Integer.MIN_VALUE, Integer.MAX_VALUE}) {
      Checks.wrongArgument("P5 pour(1, " + value + ")", () -> clock.pour(1, value));
      Checks.wrongArgument("P5 pour(0, " + value + "), full too", () -> clock.pour(0, value));
    }
    Checks.wrongState("P5 pour(0, 0), full", () -> clock.pour(0, 0));
    Checks.sameText("P5 nothing changed", Clocks.drops(clock, 0) + "/" + Clocks.drops(clock, 1), "1/");
  }
}
