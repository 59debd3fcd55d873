/** The sentences that the document opens with: what the clock is, and what one can ask. */
final class OpeningBounds {
  private OpeningBounds() {
  }

  static void hold(Sentences sentences) {
    sentences.holdTerm(6, "A water clock with fibers that work in turns.",
        OpeningBounds::fibersWorkInTurns);
    sentences.holdTerm(6, "Fibers have steps: they send drops into channels and take some out, sleep,"
        + " give way, wait for each other, and go back", OpeningBounds::fibersDoAllOfThat);
    sentences.holdTerm(6, "a fiber goes on till it is blocked, gives way, or its bucket is empty",
        OpeningBounds::goesOnTillItMayNot);
    sentences.holdTerm(14, "channels hold a few drops", OpeningBounds::channelsHoldDrops);
    String asked = "one can ask who is next, who waits for what, what a channel holds, how much each"
        + " one took, whether all are stuck, when one is done, and how large a channel should be.";
    sentences.holdTerm(12, asked, OpeningBounds::whoIsNext);
    sentences.holdTerm(16, asked, OpeningBounds::whoWaitsForWhat);
    sentences.holdTerm(15, asked, OpeningBounds::whatAChannelHolds);
    sentences.holdTerm(20, asked, OpeningBounds::howMuchEachOneTook);
    sentences.holdTerm(13, asked, OpeningBounds::whetherAllAreStuck);
    sentences.holdTerm(24, asked, OpeningBounds::whenOneIsDone);
    sentences.holdTerm(27, asked, OpeningBounds::howLargeAChannelShouldBe);
  }

  private static void fibersWorkInTurns() {
    WaterFibers clock = Clocks.of(3);
    for (int fiber = 0; fiber < 3; fiber++) {
      Clocks.steps(clock, fiber, Clocks.GIVE_WAY, 0, 0, Clocks.GIVE_WAY, 0, 0);
    }
    for (int turn = 0; turn < 6; turn++) {
      Checks.same("whose turn is " + turn, clock.next(), turn % 3);
      clock.run(1);
      Checks.same("the turns it had then", clock.turnsOf(turn % 3), turn / 3 + 1);
    }
    Checks.sameText("behind all", Clocks.states(clock), "555");
  }

  private static void fibersDoAllOfThat() {
    WaterFibers clock = Clocks.of(3, 2, 1);
    Clocks.steps(clock, 0, Clocks.SEND, 0, 5, Clocks.SLEEP, 1, 0, Clocks.SEND, 0, 6);
    Clocks.steps(clock, 1, Clocks.TAKE, 0, 0, Clocks.GO_BACK, 0, 1, Clocks.GIVE_WAY, 0, 0);
    Clocks.steps(clock, 2, Clocks.WAIT_FOR, 1, 0, Clocks.SEND_SUM, 1, 0);
    String[] due = {"300", "020", "024", "504", "550", "555"};
    for (int turn = 0; turn < due.length; turn++) {
      Checks.same("run(1)", clock.run(1), 0);
      Checks.sameText("the states behind the turn " + turn, Clocks.states(clock), due[turn]);
    }
    Checks.same("what 1 took", clock.sumOf(1), 11);
    Checks.sameText("what 2 sent", Clocks.drops(clock, 1), "0");
  }

  private static void goesOnTillItMayNot() {
    WaterFibers blocked = Clocks.of(1, 4, 1);
    Clocks.steps(blocked, 0, Clocks.SEND, 0, 1, Clocks.SEND, 0, 2, Clocks.TAKE, 1, 0,
        Clocks.SEND, 0, 3);
    blocked.run(1);
    Checks.same("till it is blocked", blocked.stepsDone(0), 2);
    WaterFibers gave = Clocks.of(1, 4);
    Clocks.steps(gave, 0, Clocks.SEND, 0, 1, Clocks.GIVE_WAY, 0, 0, Clocks.SEND, 0, 2);
    gave.run(1);
    Checks.same("till it gives way", gave.stepsDone(0), 2);
    WaterFibers empty = Clocks.of(1, 4, 4);
    for (int step = 0; step < 6; step++) {
      empty.addStep(0, Clocks.SEND, step / 4, step);
    }
    empty.run(1);
    Checks.same("till its bucket is empty", empty.stepsDone(0), 4);
    empty.run(1);
    Checks.same("and it is full again", empty.stepsDone(0), 6);
  }

  private static void channelsHoldDrops() {
    WaterFibers clock = Clocks.of(0, 4, 2);
    for (int drops = 1; drops <= 4; drops++) {
      clock.pour(0, drops);
      Checks.same("held(0)", clock.held(0), drops);
      Checks.same("held(1)", clock.held(1), 0);
    }
    Checks.sameText("the drops", Clocks.drops(clock, 0), "1 2 3 4");
  }

  private static void whoIsNext() {
    Checks.same("next()", Clocks.busy().next(), 5);
    Checks.same("placeInLine(5)", Clocks.busy().placeInLine(5), 0);
  }

  private static void whoWaitsForWhat() {
    WaterFibers clock = Clocks.busy();
    int[] senders = {1, 0, 0};
    int[] takers = {0, 0, 2};
    for (int channel = 0; channel < 3; channel++) {
      Checks.same("sendersAt(" + channel + ")", clock.sendersAt(channel), senders[channel]);
      Checks.same("takersAt(" + channel + ")", clock.takersAt(channel), takers[channel]);
    }
    Checks.sameText("the states", Clocks.states(clock), "1223405");
  }

  private static void whatAChannelHolds() {
    WaterFibers clock = Clocks.busy();
    int[] held = {1, 1, 0};
    for (int channel = 0; channel < 3; channel++) {
      Checks.same("held(" + channel + ")", clock.held(channel), held[channel]);
    }
    Checks.same("valueAt(0, 0)", clock.valueAt(0, 0), 7);
    Checks.same("valueAt(1, 0)", clock.valueAt(1, 0), 8);
  }

  private static void howMuchEachOneTook() {
    WaterFibers clock = Clocks.busy();
    clock.run(14);
    int[] due = {0, 4, 3, 7, 0, 0, 0};
    for (int fiber = 0; fiber < 7; fiber++) {
      Checks.same("sumOf(" + fiber + ")", clock.sumOf(fiber), due[fiber]);
    }
  }

  private static void whetherAllAreStuck() {
    Checks.no("busy", Clocks.busy().isStuck());
    WaterFibers clock = Clocks.of(2);
    Clocks.steps(clock, 0, Clocks.WAIT_FOR, 1, 0);
    Clocks.steps(clock, 1, Clocks.WAIT_FOR, 0, 0);
    Checks.same("turnsUntilStuck()", clock.turnsUntilStuck(), 2);
    clock.run(2);
    Checks.yes("two that wait for each other", clock.isStuck());
  }

  private static void whenOneIsDone() {
    int[] due = {8, 9, 10, 6, 14, 13, 0};
    for (int fiber = 0; fiber < 7; fiber++) {
      Checks.same("turnsUntilDone(" + fiber + ")", Clocks.busy().turnsUntilDone(fiber), due[fiber]);
    }
  }

  private static void howLargeAChannelShouldBe() {
    WaterFibers clock = Clocks.of(1, 1);
    for (int drops = 1; drops <= 8; drops++) {
      clock.addStep(0, Clocks.SEND, 0, drops);
      Checks.same("for " + drops + " drops", clock.placesWanted(0), drops);
    }
  }
}
