/** Promises 24 to 29: the questions of what would be. */
final class ForecastTests {
  private static final int[] WRONG = {2, 4, 8, -1, Integer.MIN_VALUE, Integer.MAX_VALUE};

  public static void main(String[] args) {
    turnsUntilDone();
    turnsUntilDoneAtTheEdge();
    turnsUntilDoneOfOneThatWaits();
    turnsUntilStuck();
    turnsUntilStuckAtTheEdge();
    turnsUntilStuckOfOthers();
    sumIn();
    sumInWrapsAround();
    sumInThrows();
    placesWantedByDrops();
    placesWantedWithSenders();
    placesWantedAtTheEdge();
    placesWantedOfEach();
    meanTurns();
    digestOfNothing();
    digestOfMuch();
    forecastsComeTrue();
    waitingTakersAreForeseen();
    nothingIsChanged();
    wrongNumbers();
    Checks.end("ForecastTests");
  }

  /** A fiber that sleeps so many turns, 1 to 200, in pieces. */
  private static void sleeps(WaterFibers clock, int fiber, int turns) {
    for (int left = turns; left > 0; left -= 20) {
      clock.addStep(fiber, Clocks.SLEEP, Math.min(left, 20), 0);
    }
  }

  private static void turnsUntilDone() {
    WaterFibers clock = Clocks.of(3, 1);
    Clocks.steps(clock, 0, Clocks.SEND, 0, 5, Clocks.SEND, 0, 6);
    Clocks.steps(clock, 1, Clocks.TAKE, 0, 0, Clocks.TAKE, 0, 0);
    Checks.same("P24 turnsUntilDone(2) without steps", clock.turnsUntilDone(2), 0);
    Checks.same("P24 turnsUntilDone(0)", clock.turnsUntilDone(0), 3);
    Checks.same("P24 turnsUntilDone(1)", clock.turnsUntilDone(1), 4);
    clock.run(1);
    Checks.same("P24 turnsUntilDone(0) behind a turn", clock.turnsUntilDone(0), 2);
    clock.run(2);
    Checks.same("P24 turnsUntilDone(0), done", clock.turnsUntilDone(0), 0);
    Checks.same("P24 turnsUntilDone(1), nearly", clock.turnsUntilDone(1), 1);
  }

  private static void turnsUntilDoneAtTheEdge() {
    WaterFibers clock = Clocks.of(2);
    sleeps(clock, 0, 199);
    Checks.same("P24 turnsUntilDone(0)", clock.turnsUntilDone(0), 200);
    WaterFibers longer = Clocks.of(2);
    sleeps(longer, 0, 200);
    Checks.same("P24 turnsUntilDone(0) in 201", longer.turnsUntilDone(0), -1);
    longer.run(1);
    Checks.same("P24 turnsUntilDone(0) behind a turn", longer.turnsUntilDone(0), 200);
  }

  private static void turnsUntilDoneOfOneThatWaits() {
    WaterFibers clock = Clocks.of(2, 1);
    Clocks.steps(clock, 0, Clocks.TAKE, 0, 0);
    Clocks.steps(clock, 1, Clocks.WAIT_FOR, 0, 0);
    Checks.same("P24 turnsUntilDone(0)", clock.turnsUntilDone(0), -1);
    clock.run(2);
    Checks.same("P24 turnsUntilDone(1), stuck", clock.turnsUntilDone(1), -1);
    clock.pour(0, 1);
    Checks.same("P24 turnsUntilDone(1) behind pour", clock.turnsUntilDone(1), 2);
  }

  private static void turnsUntilStuck() {
    WaterFibers clock = Clocks.of(3, 1);
    Clocks.steps(clock, 0, Clocks.WAIT_FOR, 1, 0);
    Clocks.steps(clock, 1, Clocks.GIVE_WAY, 0, 0, Clocks.TAKE, 0, 0);
    Checks.same("P25 turnsUntilStuck()", clock.turnsUntilStuck(), 3);
    clock.run(2);
    Checks.same("P25 turnsUntilStuck() behind two turns", clock.turnsUntilStuck(), 1);
    clock.run(1);
    Checks.same("P25 turnsUntilStuck() of now", clock.turnsUntilStuck(), 0);
    Checks.yes("P25 it is stuck", clock.isStuck());
    clock.pour(0, 1);
    Checks.same("P25 turnsUntilStuck() behind pour", clock.turnsUntilStuck(), -1);
  }

  private static void turnsUntilStuckAtTheEdge() {
    WaterFibers clock = Clocks.of(1, 1);
    sleeps(clock, 0, 199);
    clock.addStep(0, Clocks.TAKE, 0, 0);
    Checks.same("P25 turnsUntilStuck()", clock.turnsUntilStuck(), 200);
    WaterFibers longer = Clocks.of(1, 1);
    sleeps(longer, 0, 200);
    longer.addStep(0, Clocks.TAKE, 0, 0);
    Checks.same("P25 turnsUntilStuck() in 201", longer.turnsUntilStuck(), -1);
    longer.run(1);
    Checks.same("P25 turnsUntilStuck() behind a turn", longer.turnsUntilStuck(), 200);
  }

  private static void turnsUntilStuckOfOthers() {
    Checks.same("P25 without fibers", new WaterFibers().turnsUntilStuck(), -1);
    WaterFibers clock = Clocks.of(2);
    Checks.same("P25 without steps", clock.turnsUntilStuck(), -1);
    sleeps(clock, 0, 7);
    Checks.same("P25 with one that will be done", clock.turnsUntilStuck(), -1);
  }

  private static void sumIn() {
    WaterFibers clock = Clocks.of(2, 4);
    clock.pour(0, 100);
    clock.pour(0, 20);
    clock.pour(0, 3);
    Clocks.steps(clock, 1, Clocks.TAKE, 0, 0, Clocks.GIVE_WAY, 0, 0, Clocks.TAKE, 0, 0,
        Clocks.SLEEP, 20, 0, Clocks.SLEEP, 20, 0, Clocks.SLEEP, 18, 0, Clocks.TAKE, 0, 0);
    Checks.same("P26 sumIn(1, 1)", clock.sumIn(1, 1), 100);
    Checks.same("P26 sumIn(1, 2)", clock.sumIn(1, 2), 120);
    Checks.same("P26 sumIn(1, 59)", clock.sumIn(1, 59), 120);
    Checks.same("P26 sumIn(1, 60)", clock.sumIn(1, 60), 123);
    Checks.same("P26 sumIn(0, 60)", clock.sumIn(0, 60), 0);
    Checks.same("P26 sumOf(1)", clock.sumOf(1), 0);
    clock.run(1);
    Checks.same("P26 sumIn(1, 58) behind a turn", clock.sumIn(1, 58), 120);
    Checks.same("P26 sumIn(1, 59) behind a turn", clock.sumIn(1, 59), 123);
  }

  private static void sumInWrapsAround() {
    WaterFibers clock = Clocks.of(1, 1);
    clock.pour(0, 999);
    Clocks.steps(clock, 0, Clocks.TAKE, 0, 0, Clocks.SEND_SUM, 0, 0, Clocks.TAKE, 0, 0,
        Clocks.GO_BACK, 1, 9, Clocks.GO_BACK, 1, 2);
    Checks.same("P26 999, doubled 30 times", clock.sumIn(0, 60), -1073741824);
  }

  private static void sumInThrows() {
    WaterFibers clock = Clocks.of(2);
    for (int turns : new int[] {0, 61, -1, Integer.MIN_VALUE, Integer.MAX_VALUE}) {
      Checks.wrongArgument("P26 sumIn(0, " + turns + ")", () -> clock.sumIn(0, turns));
      Checks.noSuchIndex("P26 sumIn(2, " + turns + ")", () -> clock.sumIn(2, turns));
      Checks.noSuchIndex("P26 sumIn(-1, " + turns + ")", () -> clock.sumIn(-1, turns));
    }
  }

  private static void placesWantedByDrops() {
    for (int drops = 1; drops <= 9; drops++) {
      for (int places = 1; places <= 4; places++) {
        WaterFibers clock = Clocks.of(1, places);
        for (int i = 0; i < drops; i++) {
          clock.addStep(0, Clocks.SEND, 0, i);
        }
        int due = drops > 8 ? -1 : Math.max(drops, places);
        Checks.same("P27 placesWanted(0) by " + drops + " drops", clock.placesWanted(0), due);
        Checks.same("P27 the real one has as many as before", real(clock), places);
      }
    }
    WaterFibers idle = Clocks.of(2, 3);
    Checks.same("P27 with all done now", idle.placesWanted(0), 3);
    Checks.same("P27 without fibers", Clocks.of(0, 4).placesWanted(0), 4);
  }

  /** How many drops an empty channel 0 takes. */
  private static int real(WaterFibers clock) {
    int places = 0;
    try {
      for (int i = 0; i < 9; i++) {
        places = clock.pour(0, 0);
      }
    } catch (IllegalStateException full) {
      return places;
    }
    return -1;
  }

  private static void placesWantedWithSenders() {
    WaterFibers clock = Clocks.of(3, 1);
    Clocks.steps(clock, 0, Clocks.SEND, 0, 1, Clocks.SEND, 0, 2, Clocks.SEND, 0, 3);
    Checks.same("P27 before it waits", clock.placesWanted(0), 3);
    clock.run(1);
    Checks.same("P27 one that waits goes on waiting", clock.placesWanted(0), -1);
    Clocks.steps(clock, 1, Clocks.SLEEP, 5, 0, Clocks.TAKE, 0, 0);
    Checks.same("P27 till one is taken", clock.placesWanted(0), 2);
    Clocks.steps(clock, 2, Clocks.SEND, 0, 9);
    Checks.same("P27 another one sends ahead of it", clock.placesWanted(0), 3);
  }

  private static void placesWantedAtTheEdge() {
    WaterFibers clock = Clocks.of(1, 2);
    sleeps(clock, 0, 99);
    Checks.same("P27 all done in 100 turns", clock.placesWanted(0), 2);
    WaterFibers longer = Clocks.of(1, 2);
    sleeps(longer, 0, 100);
    Checks.same("P27 all done in 101 turns", longer.placesWanted(0), -1);
    longer.run(1);
    Checks.same("P27 all done in 100 turns more", longer.placesWanted(0), 2);
  }

  private static void placesWantedOfEach() {
    WaterFibers clock = Clocks.of(1, 1, 2);
    Clocks.steps(clock, 0, Clocks.SEND, 0, 1, Clocks.SEND, 1, 2, Clocks.SEND, 1, 3,
        Clocks.SEND, 1, 4, Clocks.SEND, 1, 5);
    Checks.same("P27 the other one stays small", clock.placesWanted(0), -1);
    Checks.same("P27 placesWanted(1)", clock.placesWanted(1), 4);
    clock.addStep(0, Clocks.SEND, 0, 6);
    Checks.same("P27 both would have to grow", clock.placesWanted(1), -1);
  }

  private static void meanTurns() {
    Checks.sameMean("P28 meanTurns() without fibers", new WaterFibers().meanTurns(), 0);
    WaterFibers clock = Clocks.of(3, 1);
    Checks.sameMean("P28 meanTurns() without turns", clock.meanTurns(), 0);
    Clocks.steps(clock, 0, Clocks.GIVE_WAY, 0, 0, Clocks.GIVE_WAY, 0, 0);
    clock.run(1);
    Checks.sameMean("P28 meanTurns() of 1, 0, 0", clock.meanTurns(), 1.0 / 3);
    Clocks.steps(clock, 1, Clocks.TAKE, 0, 0);
    clock.run(9);
    Checks.sameMean("P28 meanTurns() of 2, 1, 0", clock.meanTurns(), 1);
    clock.addFiber();
    Checks.sameMean("P28 meanTurns() of 2, 1, 0, 0", clock.meanTurns(), 0.75);
  }

  private static void digestOfNothing() {
    long due = 2213;
    for (int number : new int[] {0, 0, 0, 0, 0, -1, 0, -1}) {
      due = due * 31 + number;
    }
    Checks.same("P29 digest() of a new object", new WaterFibers().digest(), due);
  }

  private static void digestOfMuch() {
    Checks.same("P29 digest() at 0", much().digest(), Digests.of(much()));
    for (int turns = 1; turns <= 14; turns++) {
      WaterFibers clock = much();
      clock.run(turns);
      Checks.same("P29 digest() at " + turns, clock.digest(), Digests.of(clock));
      Checks.same("P29 isStuck() counts too", clock.isStuck() ? 1 : 0, turns >= 10 ? 1 : 0);
    }
  }

  /** Made anew for each digest, as an object is promised something about for 512 calls only. */
  private static WaterFibers much() {
    WaterFibers clock = Clocks.of(5, 2, 1);
    clock.pour(0, -9);
    Clocks.steps(clock, 0, Clocks.SEND, 0, 5, Clocks.SEND, 0, 6, Clocks.SEND, 0, 7);
    Clocks.steps(clock, 1, Clocks.TAKE, 1, 0);
    Clocks.steps(clock, 2, Clocks.SLEEP, 6, 0, Clocks.TAKE, 0, 0, Clocks.TAKE, 0, 0);
    Clocks.steps(clock, 3, Clocks.WAIT_FOR, 1, 0);
    return clock;
  }

  /** Asked in the midst of sleeping, waiting and going back, and borne out by the turns. */
  private static void forecastsComeTrue() {
    int untilDone = turnsBorneOut(busy(), true);
    int untilStuck = turnsBorneOut(busy(), false);
    WaterFibers clock = busy();
    for (int turn = 0; turn <= untilStuck; turn++) {
      int dueDone = Math.max(untilDone - turn, 0);
      Checks.same("P24 turnsUntilDone(0) at " + turn, clock.turnsUntilDone(0), dueDone);
      Checks.same("P25 turnsUntilStuck() at " + turn, clock.turnsUntilStuck(), untilStuck - turn);
      Checks.same("P26 sumIn(1, 60) at " + turn, clock.sumIn(1, 60), 30);
      clock.run(1);
    }
  }

  /** In how many turns, made one by one, the fiber 0 is done or all are stuck. */
  private static int turnsBorneOut(WaterFibers clock, boolean done) {
    int turns = 0;
    while (turns < 200 && !(done ? clock.stateOf(0) == Clocks.DONE : clock.isStuck())) {
      clock.run(1);
      turns++;
    }
    return turns;
  }

  private static void waitingTakersAreForeseen() {
    WaterFibers clock = Clocks.of(2, 2);
    Clocks.steps(clock, 0, Clocks.TAKE, 0, 0);
    Clocks.steps(clock, 1, Clocks.SLEEP, 3, 0, Clocks.SEND, 0, 8);
    clock.run(2);
    Checks.same("P24 turnsUntilDone(0), waiting to take", clock.turnsUntilDone(0), 4);
    Checks.same("P26 sumIn(0, 3), waiting to take", clock.sumIn(0, 3), 0);
    Checks.same("P26 sumIn(0, 4), waiting to take", clock.sumIn(0, 4), 8);
    Checks.same("P27 placesWanted(0), waiting to take", clock.placesWanted(0), 2);
  }

  private static void nothingIsChanged() {
    WaterFibers asked = busy();
    WaterFibers left = busy();
    for (int i = 0; i < 12; i++) {
      asked.turnsUntilDone(0);
      asked.turnsUntilDone(1);
      asked.turnsUntilStuck();
      asked.sumIn(1, 60);
      asked.placesWanted(0);
      asked.meanTurns();
      asked.digest();
      Checks.sameText("P24 to P29 change nothing", Clocks.shown(asked), Clocks.shown(left));
      asked.run(1);
      left.run(1);
    }
  }

  private static WaterFibers busy() {
    WaterFibers clock = Clocks.of(2, 1);
    Clocks.steps(clock, 0, Clocks.SEND, 0, 5, Clocks.GO_BACK, 0, 2, Clocks.SLEEP, 2, 0,
        Clocks.GO_BACK, 0, 1);
    Clocks.steps(clock, 1, Clocks.TAKE, 0, 0, Clocks.GO_BACK, 0, 6, Clocks.SEND_SUM, 0, 0);
    return clock;
  }

  private static void wrongNumbers() {
    WaterFibers clock = Clocks.of(2, 1, 1);
    for (int number : WRONG) {
      Checks.noSuchIndex("P24 turnsUntilDone(" + number + ")", () -> clock.turnsUntilDone(number));
      Checks.noSuchIndex("P26 sumIn(" + number + ", 1)", () -> clock.sumIn(number, 1));
      Checks.noSuchIndex("P27 placesWanted(" + number + ")", () -> clock.placesWanted(number));
    }
  }
}
