/** Promise 6, run, with what the document's terms say of turns, the line and the kinds of steps. */
final class TurnTests {
  public static void main(String[] args) {
    runThrows();
    runWithoutFibers();
    fourStepsATurn();
    stepNotDoneCountsNone();
    giveWay();
    sleepOne();
    sleepTwenty();
    sleepersWakeTogether();
    sleepersStandBehindTheLine();
    sleeperGetsAStepMore();
    waitForFiber();
    waitAgainForFiber();
    waitForOneThatIsDone();
    goBackToItself();
    goBackCountsAnew();
    firstDropIsTakenFirst();
    takerIsAheadOfSender();
    takerWaitsAgainBehindOthers();
    senderThatWaitedLongest();
    senderWaitsAgainBehindOthers();
    sumsAreSent();
    sumsWrapAround();
    turnsGoRound();
    Checks.end("TurnTests");
  }

  private static void runThrows() {
    WaterFibers clock = Clocks.of(1, 1);
    clock.addStep(0, Clocks.GIVE_WAY, 0, 0);
    String before = Clocks.shown(clock);
    for (int turns : new int[] {0, 61, -1, Integer.MIN_VALUE, Integer.MAX_VALUE}) {
      Checks.wrongArgument("P6 run(" + turns + ")", () -> clock.run(turns));
    }
    Checks.sameText("P6 nothing changed", Clocks.shown(clock), before);
  }

  private static void runWithoutFibers() {
    WaterFibers clock = new WaterFibers();
    Checks.same("P6 run(1)", clock.run(1), 1);
    Checks.same("P6 run(60)", clock.run(60), 60);
    Checks.same("P6 time()", clock.time(), 61);
    Checks.same("P6 idleTurns()", clock.idleTurns(), 61);
  }

  private static void fourStepsATurn() {
    WaterFibers clock = Clocks.of(2, 4, 4);
    Clocks.steps(clock, 0, Clocks.SEND, 0, 1, Clocks.SEND, 0, 2, Clocks.SEND, 0, 3,
        Clocks.SEND, 0, 4);
    Clocks.steps(clock, 1, Clocks.SEND, 1, 1, Clocks.SEND, 1, 2, Clocks.SEND, 1, 3,
        Clocks.TAKE, 1, 0, Clocks.TAKE, 1, 0);
    clock.run(1);
    Checks.same("P6 with its fourth and last step a fiber is done", clock.stateOf(0), Clocks.DONE);
    clock.run(1);
    Checks.same("P6 with a fifth one it is ready", clock.stateOf(1), Clocks.READY);
    Checks.same("P6 it did four", clock.stepsDone(1), 4);
    Checks.same("P6 run(2)", clock.run(2), 1);
    Checks.same("P6 it did five", clock.stepsDone(1), 5);
    Checks.same("P6 in two turns", clock.turnsOf(1), 2);
    Checks.same("P6 then it is done", clock.stateOf(1), Clocks.DONE);
  }

  private static void stepNotDoneCountsNone() {
    WaterFibers clock = Clocks.of(1, 2);
    Clocks.steps(clock, 0, Clocks.SEND, 0, 1, Clocks.SEND, 0, 2, Clocks.SEND, 0, 3);
    Checks.same("P6 run(2)", clock.run(2), 1);
    Checks.same("P6 it waits to send", clock.stateOf(0), Clocks.WAITS_TO_SEND);
    Checks.same("P6 stepsDone(0)", clock.stepsDone(0), 2);
    Checks.same("P6 placeOf(0)", clock.placeOf(0), 2);
    Checks.same("P6 turnsOf(0)", clock.turnsOf(0), 1);
    Checks.sameText("P6 drops", Clocks.drops(clock, 0), "1 2");
  }

  private static void giveWay() {
    WaterFibers clock = Clocks.of(1, 4);
    Clocks.steps(clock, 0, Clocks.SEND, 0, 1, Clocks.GIVE_WAY, 0, 0, Clocks.GIVE_WAY, 0, 0);
    clock.run(1);
    Checks.same("P6 the turn ends behind it", clock.placeOf(0), 2);
    Checks.same("P6 the fiber is ready", clock.next(), 0);
    clock.run(1);
    Checks.same("P6 one whose last step gives way is done", clock.stateOf(0), Clocks.DONE);
    Checks.same("P6 stepsDone(0)", clock.stepsDone(0), 3);
    Checks.same("P6 turnsOf(0)", clock.turnsOf(0), 2);
  }

  private static void sleepOne() {
    WaterFibers clock = Clocks.of(1);
    Clocks.steps(clock, 0, Clocks.SLEEP, 1, 0);
    Checks.same("P6 run(1)", clock.run(1), 0);
    Checks.same("P6 it sleeps", clock.stateOf(0), Clocks.SLEEPS);
    Checks.same("P6 the step is done", clock.placeOf(0), 1);
    Checks.same("P6 the turn behind it is its own", clock.run(1), 0);
    Checks.same("P6 it is done then", clock.stateOf(0), Clocks.DONE);
    Checks.same("P6 turnsOf(0)", clock.turnsOf(0), 2);
    Checks.same("P6 stepsDone(0)", clock.stepsDone(0), 1);
  }

  private static void sleepTwenty() {
    WaterFibers clock = Clocks.of(1, 1);
    Clocks.steps(clock, 0, Clocks.SLEEP, 20, 0, Clocks.SEND, 0, 1);
    Checks.same("P6 run(20)", clock.run(20), 19);
    Checks.same("P6 it sleeps still", clock.stateOf(0), Clocks.SLEEPS);
    Checks.same("P6 run(1)", clock.run(1), 0);
    Checks.same("P6 it went on", clock.held(0), 1);
  }

  private static void sleepersWakeTogether() {
    WaterFibers clock = Clocks.of(3);
    Clocks.steps(clock, 2, Clocks.SLEEP, 3, 0, Clocks.GIVE_WAY, 0, 0);
    Clocks.steps(clock, 1, Clocks.SLEEP, 2, 0, Clocks.GIVE_WAY, 0, 0);
    Clocks.steps(clock, 0, Clocks.SLEEP, 1, 0, Clocks.GIVE_WAY, 0, 0);
    clock.run(3);
    Checks.sameText("P6 all sleep", Clocks.states(clock), "333");
    clock.run(1);
    Checks.sameText("P6 the smallest number is first", Clocks.states(clock), "500");
    Checks.sameText("P6 the line", Clocks.line(clock), "12");
  }

  private static void sleepersStandBehindTheLine() {
    WaterFibers clock = Clocks.of(2);
    Clocks.steps(clock, 0, Clocks.SLEEP, 1, 0, Clocks.GIVE_WAY, 0, 0);
    Clocks.steps(clock, 1, Clocks.GIVE_WAY, 0, 0, Clocks.GIVE_WAY, 0, 0);
    clock.run(2);
    Checks.same("P6 the other one had its turn first", clock.turnsOf(1), 1);
    Checks.sameText("P6 then it went last", Clocks.line(clock), "01");
  }

  private static void sleeperGetsAStepMore() {
    WaterFibers clock = Clocks.of(1, 1);
    Clocks.steps(clock, 0, Clocks.SLEEP, 5, 0);
    clock.run(2);
    clock.addStep(0, Clocks.SEND, 0, 4);
    clock.run(4);
    Checks.sameText("P6 it did the step when it woke", Clocks.drops(clock, 0), "4");
    Checks.same("P6 turnsOf(0)", clock.turnsOf(0), 2);
  }

  private static void waitForFiber() {
    WaterFibers clock = Clocks.of(4, 1);
    Clocks.steps(clock, 1, Clocks.WAIT_FOR, 3, 0);
    Clocks.steps(clock, 0, Clocks.WAIT_FOR, 3, 0, Clocks.GIVE_WAY, 0, 0);
    Clocks.steps(clock, 2, Clocks.WAIT_FOR, 0, 0);
    Clocks.steps(clock, 3, Clocks.GIVE_WAY, 0, 0, Clocks.GIVE_WAY, 0, 0);
    clock.run(4);
    Checks.sameText("P6 three wait", Clocks.states(clock), "4440");
    Checks.same("P6 the step is not done", clock.stepsDone(0), 0);
    clock.run(1);
    Checks.sameText("P6 those that waited for 3 are ready", Clocks.states(clock), "0045");
    Checks.sameText("P6 the smallest number first", Clocks.line(clock), "01");
    clock.run(1);
    Checks.sameText("P6 0 is done, and 2 ready", Clocks.states(clock), "5005");
    Checks.sameText("P6 2 is behind 1", Clocks.line(clock), "12");
    Checks.same("P6 stepsDone(0)", clock.stepsDone(0), 2);
    Checks.same("P6 turnsOf(0)", clock.turnsOf(0), 2);
  }

  private static void waitAgainForFiber() {
    WaterFibers clock = Clocks.of(2);
    Clocks.steps(clock, 0, Clocks.WAIT_FOR, 1, 0);
    Clocks.steps(clock, 1, Clocks.GIVE_WAY, 0, 0);
    clock.run(2);
    Checks.sameText("P6 0 is ready", Clocks.states(clock), "05");
    clock.addStep(1, Clocks.GIVE_WAY, 0, 0);
    clock.run(1);
    Checks.sameText("P6 0 waits again", Clocks.states(clock), "40");
    clock.run(2);
    Checks.sameText("P6 both are done", Clocks.states(clock), "55");
  }

  private static void waitForOneThatIsDone() {
    WaterFibers clock = Clocks.of(2);
    Clocks.steps(clock, 0, Clocks.WAIT_FOR, 1, 0);
    clock.run(1);
    Checks.same("P6 it is done", clock.stateOf(0), Clocks.DONE);
    Checks.same("P6 the step is done", clock.stepsDone(0), 1);
  }

  private static void goBackToItself() {
    WaterFibers clock = Clocks.of(1);
    Clocks.steps(clock, 0, Clocks.GO_BACK, 0, 9);
    clock.run(2);
    Checks.same("P6 it went back 8 times", clock.stepsDone(0), 8);
    Checks.same("P6 it is at the step still", clock.placeOf(0), 0);
    clock.run(1);
    Checks.same("P6 9 times, and on", clock.stepsDone(0), 10);
    Checks.same("P6 placeOf(0)", clock.placeOf(0), 1);
    Checks.same("P6 it is done", clock.stateOf(0), Clocks.DONE);
  }

  private static void goBackCountsAnew() {
    WaterFibers clock = Clocks.of(1);
    Clocks.steps(clock, 0, Clocks.GIVE_WAY, 0, 0, Clocks.GO_BACK, 0, 2, Clocks.GO_BACK, 0, 1);
    clock.run(6);
    Checks.same("P6 placeOf(0)", clock.placeOf(0), 1);
    Checks.same("P6 stepsDone(0)", clock.stepsDone(0), 12);
    clock.run(1);
    Checks.same("P6 it is done", clock.stateOf(0), Clocks.DONE);
    Checks.same("P6 stepsDone(0) in all", clock.stepsDone(0), 14);
  }

  private static void firstDropIsTakenFirst() {
    WaterFibers clock = Clocks.of(2, 3);
    Clocks.steps(clock, 0, Clocks.SEND, 0, 10, Clocks.SEND, 0, -20, Clocks.SEND, 0, 30);
    Clocks.steps(clock, 1, Clocks.TAKE, 0, 0, Clocks.GIVE_WAY, 0, 0, Clocks.TAKE, 0, 0);
    clock.run(2);
    Checks.same("P6 sumOf(1)", clock.sumOf(1), 10);
    Checks.sameText("P6 drops", Clocks.drops(clock, 0), "-20 30");
    clock.run(1);
    Checks.same("P6 sumOf(1) behind the second", clock.sumOf(1), -10);
  }

  private static void takerIsAheadOfSender() {
    WaterFibers clock = Clocks.of(2, 1);
    Clocks.steps(clock, 0, Clocks.TAKE, 0, 0, Clocks.TAKE, 0, 0);
    Clocks.steps(clock, 1, Clocks.SEND, 0, 5, Clocks.GIVE_WAY, 0, 0, Clocks.GIVE_WAY, 0, 0);
    clock.run(1);
    Checks.same("P6 it waits to take", clock.stateOf(0), Clocks.WAITS_TO_TAKE);
    clock.run(1);
    Checks.sameText("P6 the line", Clocks.line(clock), "01");
    Checks.same("P6 it did not take yet", clock.sumOf(0), 0);
    clock.run(1);
    Checks.same("P6 it took as its turn came", clock.sumOf(0), 5);
    Checks.same("P6 and waits for another", clock.stateOf(0), Clocks.WAITS_TO_TAKE);
  }

  private static void takerWaitsAgainBehindOthers() {
    WaterFibers clock = Clocks.of(3, 1);
    Clocks.steps(clock, 0, Clocks.TAKE, 0, 0);
    Clocks.steps(clock, 1, Clocks.SEND, 0, 5, Clocks.TAKE, 0, 0);
    Clocks.steps(clock, 2, Clocks.TAKE, 0, 0);
    clock.run(2);
    Checks.sameText("P6 1 took its own drop", Clocks.states(clock), "050");
    Checks.sameText("P6 the line", Clocks.line(clock), "20");
    clock.run(2);
    Checks.same("P6 takersAt(0)", clock.takersAt(0), 2);
    clock.pour(0, 7);
    Checks.same("P6 2 waited longer", clock.next(), 2);
  }

  private static void senderThatWaitedLongest() {
    WaterFibers clock = Clocks.of(3, 1);
    clock.pour(0, 9);
    Clocks.steps(clock, 1, Clocks.SEND, 0, 1);
    Clocks.steps(clock, 0, Clocks.SEND_SUM, 0, 0);
    Clocks.steps(clock, 2, Clocks.TAKE, 0, 0);
    clock.run(2);
    Checks.sameText("P6 both wait to send", Clocks.states(clock), "110");
    clock.run(1);
    Checks.sameText("P6 1 waited longer", Clocks.states(clock), "105");
    Checks.same("P6 it did not send yet", clock.held(0), 0);
    clock.run(1);
    Checks.sameText("P6 it sent as its turn came", Clocks.drops(clock, 0), "1");
    Checks.sameText("P6 0 waits still", Clocks.states(clock), "155");
  }

  private static void senderWaitsAgainBehindOthers() {
    WaterFibers clock = Clocks.of(4, 1);
    clock.pour(0, 9);
    Clocks.steps(clock, 1, Clocks.SEND, 0, 1);
    Clocks.steps(clock, 0, Clocks.SEND, 0, 2);
    Clocks.steps(clock, 2, Clocks.TAKE, 0, 0, Clocks.SEND, 0, 3);
    clock.run(4);
    Checks.sameText("P6 1 found no room", Clocks.states(clock), "1155");
    clock.addStep(3, Clocks.TAKE, 0, 0);
    clock.run(1);
    Checks.sameText("P6 0 waited longer", Clocks.states(clock), "0155");
    Checks.same("P6 3 took the drop of 2", clock.sumOf(3), 3);
  }

  private static void sumsAreSent() {
    WaterFibers clock = Clocks.of(1, 4);
    clock.pour(0, -6);
    clock.pour(0, 20);
    Clocks.steps(clock, 0, Clocks.SEND_SUM, 0, 500, Clocks.TAKE, 0, 0, Clocks.SEND_SUM, 0, 0,
        Clocks.TAKE, 0, 0, Clocks.SEND_SUM, 0, 0);
    clock.run(2);
    Checks.sameText("P6 sums of then", Clocks.drops(clock, 0), "0 -6 14");
  }

  private static void sumsWrapAround() {
    WaterFibers clock = Clocks.of(1, 1);
    clock.pour(0, 999);
    Clocks.steps(clock, 0, Clocks.TAKE, 0, 0, Clocks.SEND_SUM, 0, 0, Clocks.TAKE, 0, 0,
        Clocks.GO_BACK, 1, 9, Clocks.GO_BACK, 1, 2);
    Checks.same("P6 run(24)", clock.run(24), 0);
    Checks.same("P6 it did 30 doublings", clock.stepsDone(0), 94);
    Checks.same("P6 999, doubled 30 times", clock.sumOf(0), -1073741824);
    Checks.same("P6 it is done", clock.stateOf(0), Clocks.DONE);
  }

  private static void turnsGoRound() {
    WaterFibers clock = Clocks.of(3);
    for (int fiber = 2; fiber >= 0; fiber--) {
      Clocks.steps(clock, fiber, Clocks.GIVE_WAY, 0, 0, Clocks.GIVE_WAY, 0, 0);
    }
    StringBuilder order = new StringBuilder();
    for (int i = 0; i < 6; i++) {
      order.append(clock.next());
      clock.run(1);
    }
    Checks.sameText("P6 the order of turns", order.toString(), "210210");
    Checks.same("P6 idleTurns()", clock.idleTurns(), 0);
    Checks.same("P6 run(1) behind all", clock.run(1), 1);
  }
}
