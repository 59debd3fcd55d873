import java.util.function.IntUnaryOperator;

/** Promises 7 to 23: the questions of what there is. */
final class ReadTests {
  private static final int[] WRONG = {3, 4, 8, -1, Integer.MIN_VALUE, Integer.MAX_VALUE};

  public static void main(String[] args) {
    timeAndCounts();
    done();
    idleTurns();
    next();
    isStuck();
    isNotStuck();
    heldAndValueAt();
    valueAtThrows();
    sendersAndTakersAt();
    stateOf();
    placeSumStepsTurns();
    placeInLine();
    wrongNumbers();
    Checks.end("ReadTests");
  }

  private static void timeAndCounts() {
    WaterFibers clock = new WaterFibers();
    for (int i = 1; i <= 4; i++) {
      clock.addChannel(i);
      Checks.same("P8 channels()", clock.channels(), i);
    }
    for (int i = 1; i <= 8; i++) {
      clock.addFiber();
      Checks.same("P9 fibers()", clock.fibers(), i);
    }
    Checks.same("P7 time()", clock.time(), 0);
    clock.run(1);
    Checks.same("P7 time() behind a turn", clock.time(), 1);
    clock.run(60);
    Checks.same("P7 time() behind 61 turns", clock.time(), 61);
    clock.addStep(0, Clocks.GIVE_WAY, 0, 0);
    clock.run(2);
    Checks.same("P7 time() counts idle turns and others", clock.time(), 63);
  }

  private static void done() {
    WaterFibers clock = Clocks.of(3);
    Checks.same("P10 done() of fibers without steps", clock.done(), 3);
    Clocks.steps(clock, 0, Clocks.SLEEP, 2, 0);
    Clocks.steps(clock, 1, Clocks.GIVE_WAY, 0, 0, Clocks.GIVE_WAY, 0, 0);
    Checks.same("P10 done()", clock.done(), 1);
    clock.run(2);
    Checks.same("P10 done() in between", clock.done(), 1);
    clock.run(1);
    Checks.same("P10 done() of two", clock.done(), 2);
    clock.run(1);
    Checks.same("P10 done() of all", clock.done(), 3);
  }

  private static void idleTurns() {
    WaterFibers clock = Clocks.of(1);
    clock.run(3);
    Checks.same("P11 idleTurns()", clock.idleTurns(), 3);
    Clocks.steps(clock, 0, Clocks.SLEEP, 4, 0);
    clock.run(10);
    Checks.same("P11 idleTurns(), asleep and done", clock.idleTurns(), 11);
  }

  private static void next() {
    WaterFibers clock = Clocks.of(2);
    Checks.same("P12 next() of an empty line", clock.next(), -1);
    clock.addStep(1, Clocks.SLEEP, 2, 0);
    Checks.same("P12 next()", clock.next(), 1);
    clock.addStep(0, Clocks.GIVE_WAY, 0, 0);
    Checks.same("P12 next() is the first one", clock.next(), 1);
    clock.run(1);
    Checks.same("P12 next() behind its turn", clock.next(), 0);
    clock.run(1);
    Checks.same("P12 next() with one that sleeps", clock.next(), -1);
  }

  private static void isStuck() {
    WaterFibers clock = Clocks.of(3, 1);
    Clocks.steps(clock, 0, Clocks.TAKE, 0, 0);
    Clocks.steps(clock, 1, Clocks.WAIT_FOR, 0, 0);
    clock.run(1);
    Checks.no("P13 isStuck() with one ready", clock.isStuck());
    clock.run(1);
    Checks.yes("P13 isStuck() with one done", clock.isStuck());
    clock.pour(0, 1);
    Checks.no("P13 isStuck() behind pour", clock.isStuck());
    clock.run(2);
    Checks.no("P13 isStuck() with all done", clock.isStuck());
    Clocks.steps(clock, 2, Clocks.SEND, 0, 1, Clocks.SEND, 0, 1);
    clock.run(1);
    Checks.yes("P13 isStuck() with one that waits to send", clock.isStuck());
  }

  private static void isNotStuck() {
    Checks.no("P13 isStuck() without fibers", new WaterFibers().isStuck());
    WaterFibers clock = Clocks.of(2, 1);
    Checks.no("P13 isStuck() of fibers without steps", clock.isStuck());
    Clocks.steps(clock, 0, Clocks.TAKE, 0, 0);
    Clocks.steps(clock, 1, Clocks.SLEEP, 3, 0);
    clock.run(2);
    Checks.no("P13 isStuck() with one that sleeps", clock.isStuck());
    clock.run(3);
    Checks.yes("P13 isStuck() when that is done", clock.isStuck());
  }

  private static void heldAndValueAt() {
    WaterFibers clock = Clocks.of(1, 2, 3);
    Checks.same("P14 held(0)", clock.held(0), 0);
    clock.pour(1, -999);
    clock.pour(1, 0);
    clock.pour(1, 999);
    Checks.same("P14 held(1)", clock.held(1), 3);
    Checks.same("P14 held(0) still", clock.held(0), 0);
    Checks.same("P15 valueAt(1, 0)", clock.valueAt(1, 0), -999);
    Checks.same("P15 valueAt(1, 1)", clock.valueAt(1, 1), 0);
    Checks.same("P15 valueAt(1, 2)", clock.valueAt(1, 2), 999);
    Clocks.steps(clock, 0, Clocks.TAKE, 1, 0);
    clock.run(1);
    Checks.same("P14 held(1) behind a take", clock.held(1), 2);
    Checks.same("P15 valueAt(1, 0) behind a take", clock.valueAt(1, 0), 0);
    Checks.same("P15 valueAt(1, 1) behind a take", clock.valueAt(1, 1), 999);
    Checks.noSuchIndex("P15 valueAt(1, 2) behind a take", () -> clock.valueAt(1, 2));
  }

  private static void valueAtThrows() {
    WaterFibers clock = Clocks.of(0, 4, 4, 4);
    clock.pour(0, 5);
    clock.pour(0, 6);
    for (int drop : new int[] {2, 3, 4, 8, -1, Integer.MIN_VALUE, Integer.MAX_VALUE}) {
      Checks.noSuchIndex("P15 valueAt(0, " + drop + ")", () -> clock.valueAt(0, drop));
    }
    Checks.noSuchIndex("P15 valueAt(1, 0)", () -> clock.valueAt(1, 0));
  }

  private static void sendersAndTakersAt() {
    WaterFibers clock = Clocks.of(8, 1, 1);
    clock.pour(0, 1);
    for (int fiber = 0; fiber < 3; fiber++) {
      Clocks.steps(clock, fiber, Clocks.SEND, 0, fiber);
    }
    Clocks.steps(clock, 3, Clocks.SEND_SUM, 0, 0);
    Clocks.steps(clock, 4, Clocks.TAKE, 1, 0);
    Clocks.steps(clock, 5, Clocks.TAKE, 1, 0);
    Checks.same("P16 sendersAt(0) with all in the line", clock.sendersAt(0), 0);
    clock.run(6);
    Checks.same("P16 sendersAt(0)", clock.sendersAt(0), 4);
    Checks.same("P16 sendersAt(1)", clock.sendersAt(1), 0);
    Checks.same("P17 takersAt(0)", clock.takersAt(0), 0);
    Checks.same("P17 takersAt(1)", clock.takersAt(1), 2);
    clock.pour(1, 3);
    Checks.same("P17 takersAt(1) behind pour", clock.takersAt(1), 1);
    Clocks.steps(clock, 6, Clocks.TAKE, 0, 0);
    clock.run(2);
    Checks.same("P16 sendersAt(0) behind a take", clock.sendersAt(0), 3);
  }

  private static void stateOf() {
    WaterFibers clock = Clocks.of(6, 1, 1);
    clock.pour(0, 1);
    Clocks.steps(clock, 1, Clocks.SEND, 0, 1);
    Clocks.steps(clock, 2, Clocks.TAKE, 1, 0);
    Clocks.steps(clock, 3, Clocks.SLEEP, 20, 0);
    Clocks.steps(clock, 4, Clocks.WAIT_FOR, 3, 0);
    Clocks.steps(clock, 0, Clocks.GIVE_WAY, 0, 0, Clocks.GIVE_WAY, 0, 0);
    clock.run(5);
    for (int fiber = 0; fiber < 6; fiber++) {
      Checks.same("P18 stateOf(" + fiber + ")", clock.stateOf(fiber), fiber);
    }
  }

  private static void placeSumStepsTurns() {
    WaterFibers clock = Clocks.of(2, 2);
    clock.pour(0, -7);
    Clocks.steps(clock, 0, Clocks.TAKE, 0, 0, Clocks.GIVE_WAY, 0, 0, Clocks.GO_BACK, 1, 1,
        Clocks.SEND_SUM, 0, 0);
    Checks.same("P19 placeOf(0)", clock.placeOf(0), 0);
    Checks.same("P20 sumOf(0)", clock.sumOf(0), 0);
    Checks.same("P21 stepsDone(0)", clock.stepsDone(0), 0);
    Checks.same("P22 turnsOf(0)", clock.turnsOf(0), 0);
    clock.run(1);
    Checks.same("P19 placeOf(0) behind a turn", clock.placeOf(0), 2);
    Checks.same("P20 sumOf(0) behind a turn", clock.sumOf(0), -7);
    Checks.same("P21 stepsDone(0) behind a turn", clock.stepsDone(0), 2);
    Checks.same("P22 turnsOf(0) behind a turn", clock.turnsOf(0), 1);
    clock.run(2);
    Checks.same("P19 placeOf(0), done", clock.placeOf(0), 4);
    Checks.same("P20 sumOf(0), sent and kept", clock.sumOf(0), -7);
    Checks.same("P21 stepsDone(0), back and on", clock.stepsDone(0), 6);
    Checks.same("P22 turnsOf(0), done", clock.turnsOf(0), 3);
    clock.run(9);
    Checks.same("P22 turnsOf(0) behind idle turns", clock.turnsOf(0), 3);
    Checks.same("P22 turnsOf(1) without steps", clock.turnsOf(1), 0);
  }

  private static void placeInLine() {
    WaterFibers clock = Clocks.of(8);
    for (int fiber = 7; fiber >= 0; fiber--) {
      clock.addStep(fiber, Clocks.SLEEP, 9, 0);
    }
    for (int fiber = 0; fiber < 8; fiber++) {
      Checks.same("P23 placeInLine(" + fiber + ")", clock.placeInLine(fiber), 7 - fiber);
    }
    clock.run(1);
    Checks.same("P23 placeInLine(7), asleep", clock.placeInLine(7), -1);
    Checks.same("P23 placeInLine(6)", clock.placeInLine(6), 0);
    Checks.same("P23 placeInLine(0)", clock.placeInLine(0), 6);
    Checks.same("P23 placeInLine(0) of one without steps", Clocks.of(1).placeInLine(0), -1);
  }

  private static void wrongNumbers() {
    WaterFibers clock = Clocks.of(3, 1, 1, 1);
    wrong("P14 held", clock::held);
    wrong("P15 valueAt", number -> clock.valueAt(number, 0));
    wrong("P16 sendersAt", clock::sendersAt);
    wrong("P17 takersAt", clock::takersAt);
    wrong("P18 stateOf", clock::stateOf);
    wrong("P19 placeOf", clock::placeOf);
    wrong("P20 sumOf", clock::sumOf);
    wrong("P21 stepsDone", clock::stepsDone);
    wrong("P22 turnsOf", clock::turnsOf);
    wrong("P23 placeInLine", clock::placeInLine);
  }

  private static void wrong(String what, IntUnaryOperator question) {
    for (int number : WRONG) {
      Checks.noSuchIndex(what + "(" + number + ")", () -> question.applyAsInt(number));
    }
  }
}
