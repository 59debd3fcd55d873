import java.math.BigInteger;
import java.util.function.Supplier;

/** The sentences of promises 24 to 29 that name a boundary case. */
final class ForecastBounds {
  private ForecastBounds() {
  }

  static void hold(Sentences sentences) {
    sentences.hold(24, "Returns in how many turns it is done, if nothing else is done",
        ForecastBounds::turnsUntilDone);
    sentences.hold(24, "in how many turns it is done", ForecastBounds::turnsUntilDoneOfEachState);
    sentences.hold(24, "0 if it is now", ForecastBounds::doneNow);
    sentences.hold(24, "at most 200; -1 if not by then", ForecastBounds::doneByThen);
    sentences.hold(24, "(nothing is changed)", ForecastBounds::doneChangesNothing);
    sentences.hold(24, Sentences.NO_FIBER, () -> ReadBounds.noSuchFiber(Calls.TURNS_UNTIL_DONE));
    sentences.hold(25, "Returns in how many turns all are stuck, likewise",
        ForecastBounds::turnsUntilStuck);
    sentences.hold(25, "in how many turns all are stuck", ForecastBounds::turnsUntilStuckOfAll);
    sentences.hold(25, "-1 if not by then", ForecastBounds::stuckByThen);
    sentences.hold(25, "(nothing is changed)", ForecastBounds::stuckChangesNothing);
    sentences.hold(26, "Returns its sum behind them, if nothing else is done",
        ForecastBounds::sumBehindThem);
    sentences.hold(26, "its sum behind them", ForecastBounds::sumInOfEachState);
    sentences.hold(26, "(nothing is changed)", ForecastBounds::sumInChangesNothing);
    sentences.hold(26, Sentences.NO_FIBER, () -> ReadBounds.noSuchFiber(Calls.SUM_IN));
    sentences.hold(26, "Throws `IllegalArgumentException` if turns is not 1 to 60",
        ForecastBounds::turnsOneToSixty);
    sentences.holdTerm(26, "Sums are 32-bit integers, which wrap around.",
        ForecastBounds::sumInWrapsAround);
    holdPlacesWanted(sentences);
    sentences.hold(28, "Returns the mean of turns that fibers had", ForecastBounds::meanTurns);
    sentences.hold(28, "0 without any.", ForecastBounds::meanWithoutAny);
    sentences.hold(29, "Computes a checksum.", ForecastBounds::digestChangesNothing);
    sentences.hold(29, "A number d starts with 2213", ForecastBounds::digestOfNothing);
    sentences.hold(29, "for each of the following numbers x, d becomes d * 31 + x",
        ForecastBounds::digestStepByStep);
    sentences.hold(29, "time(), channels(), fibers(), done(), idleTurns(), next(), isStuck(),"
        + " turnsUntilStuck()", ForecastBounds::digestOfTheClock);
    sentences.hold(29, "which wraps around as a 64-bit integer", ForecastBounds::digestWrapsAround);
    sentences.hold(29, "(whether something is so counts 1 or 0)", ForecastBounds::digestOfStuck);
    sentences.hold(29, "then for each channel held(), its drops by valueAt(), sendersAt(),"
        + " takersAt(), placesWanted()", ForecastBounds::digestOfChannels);
    sentences.hold(29, "then for each fiber stateOf(), placeOf(), sumOf(), stepsDone(), turnsOf(),"
        + " placeInLine(), turnsUntilDone().", ForecastBounds::digestOfFibers);
    sentences.hold(29, "Returns d.", ForecastBounds::digestOfAll);
  }

  private static void holdPlacesWanted(Sentences sentences) {
    sentences.hold(27, "Returns the least number of places, from as many as it has on to 8",
        ForecastBounds::placesFromThoseThereOnToEight);
    sentences.hold(27, "with which, had it so many from now on", ForecastBounds::placesFromNowOn);
    sentences.hold(27, "all fibers would be done", ForecastBounds::placesForAllFibers);
    sentences.hold(27, "in 100 turns or fewer", ForecastBounds::placesInHundredTurns);
    sentences.hold(27, "if nothing else is done", ForecastBounds::placesIfNothingElse);
    sentences.hold(27, "(those who wait to send there wait till one is taken, all the same)",
        ForecastBounds::sendersWaitAllTheSame);
    sentences.hold(27, "-1 if there is none", ForecastBounds::noneIsWanted);
    sentences.hold(27, "(nothing is changed)", ForecastBounds::placesWantedChangesNothing);
    sentences.hold(27, Sentences.NO_CHANNEL, () -> ReadBounds.noSuchChannel(Calls.PLACES_WANTED));
  }

  /** One of two fibers lasts so many turns. */
  private static WaterFibers lasting(int turns) {
    WaterFibers clock = Clocks.of(2, 1);
    Clocks.lasts(clock, 1, turns);
    return clock;
  }

  private static void turnsUntilDone() {
    for (int turns : new int[] {1, 2, 3, 20, 21, 22, 99, 100, 101, 199, 200}) {
      Checks.same("one that lasts " + turns, lasting(turns).turnsUntilDone(1), turns);
      WaterFibers clock = lasting(turns);
      for (int left = turns; left > 0; left -= Math.min(left, 60)) {
        Checks.same("with " + left + " left", clock.turnsUntilDone(1), left);
        clock.run(Math.min(left, 60));
      }
      Checks.same("it is done then", clock.stateOf(1), Clocks.DONE);
    }
    WaterFibers eight = Clocks.of(8);
    for (int fiber = 0; fiber < 8; fiber++) {
      eight.addStep(fiber, Clocks.GIVE_WAY, 0, 0);
    }
    for (int fiber = 0; fiber < 8; fiber++) {
      Checks.same("the fiber " + fiber + " of the line", eight.turnsUntilDone(fiber), fiber + 1);
    }
  }

  private static WaterFibers behind(Supplier<WaterFibers> made, int turns) {
    WaterFibers clock = made.get();
    for (int left = turns; left > 0; left -= 60) {
      clock.run(Math.min(left, 60));
    }
    return clock;
  }

  private static WaterFibers fullAtWork() {
    return behind(Clocks::full, 13);
  }

  private static void turnsUntilDoneOfEachState() {
    int[] dueOfBusy = {8, 9, 10, 6, 14, 13, 0};
    for (int fiber = 0; fiber < 7; fiber++) {
      Checks.same("busy, " + fiber, Clocks.busy().turnsUntilDone(fiber), dueOfBusy[fiber]);
    }
    for (int fiber = 0; fiber < 8; fiber++) {
      doneAsForetold("busy, " + fiber, Clocks::busy, Math.min(fiber, 6));
      doneAsForetold("full, " + fiber, Clocks::full, fiber);
      doneAsForetold("full, at work, " + fiber, ForecastBounds::fullAtWork, fiber);
    }
  }

  private static void doneAsForetold(String what, Supplier<WaterFibers> made, int fiber) {
    int turns = made.get().turnsUntilDone(fiber);
    int last = turns < 0 ? 200 : turns - 1;
    if (turns != 0) {
      Checks.yes(what + ": it is not done in " + last,
          behind(made, last).stateOf(fiber) != Clocks.DONE);
    }
    if (turns >= 0) {
      Checks.same(what + ": it is done in " + turns, behind(made, turns).stateOf(fiber),
          Clocks.DONE);
    }
  }

  private static void doneNow() {
    WaterFibers clock = lasting(1);
    Checks.same("without steps", clock.turnsUntilDone(0), 0);
    Checks.same("ahead of its turn", clock.turnsUntilDone(1), 1);
    clock.run(1);
    Checks.same("behind its turn", clock.turnsUntilDone(1), 0);
    clock.run(60);
    Checks.same("long behind it", clock.turnsUntilDone(1), 0);
    clock.addStep(1, Clocks.GIVE_WAY, 0, 0);
    Checks.same("with a step more", clock.turnsUntilDone(1), 1);
  }

  private static void doneByThen() {
    int[] due = {199, 200, -1, -1};
    for (int turns = 199; turns <= 202; turns++) {
      Checks.same("one that lasts " + turns, lasting(turns).turnsUntilDone(1), due[turns - 199]);
    }
    WaterFibers never = Clocks.of(1, 1);
    Clocks.steps(never, 0, Clocks.TAKE, 0, 0);
    Checks.same("one that will wait", never.turnsUntilDone(0), -1);
    never.run(1);
    Checks.same("one that waits", never.turnsUntilDone(0), -1);
    WaterFibers steady = Clocks.of(1);
    Clocks.steps(steady, 0, Clocks.GIVE_WAY, 0, 0, Clocks.GO_BACK, 0, 9, Clocks.GO_BACK, 0, 9,
        Clocks.GO_BACK, 0, 1);
    Checks.same("201 turns, none idle", steady.turnsUntilDone(0), -1);
    steady.run(1);
    Checks.same("200 turns, none idle", steady.turnsUntilDone(0), 200);
  }

  private static void doneChangesNothing() {
    for (int fiber = 0; fiber < 7; fiber++) {
      int number = fiber;
      Twins.unchanged("turnsUntilDone(" + fiber + ")", Clocks::busy,
          clock -> clock.turnsUntilDone(number));
      Twins.unchanged("turnsUntilDone(" + fiber + "), full", Clocks::full,
          clock -> clock.turnsUntilDone(number));
    }
  }

  /** One fiber sleeps, the more turns the longer, and waits to take ever after: stuck by then. */
  private static WaterFibers stuckIn(int turns) {
    WaterFibers clock = Clocks.of(2, 1);
    if (turns > 1) {
      Clocks.lasts(clock, 1, turns);
    }
    clock.addStep(1, Clocks.TAKE, 0, 0);
    return clock;
  }

  private static void turnsUntilStuck() {
    for (int turns : new int[] {1, 3, 20, 21, 22, 99, 199, 200}) {
      Checks.same("stuck in " + turns, stuckIn(turns).turnsUntilStuck(), turns);
      WaterFibers clock = stuckIn(turns);
      for (int left = turns; left > 0; left -= Math.min(left, 60)) {
        Checks.same("with " + left + " left", clock.turnsUntilStuck(), left);
        Checks.no("stuck ahead of that", clock.isStuck());
        clock.run(Math.min(left, 60));
      }
      Checks.yes("stuck then", clock.isStuck());
      Checks.same("0 if all are stuck now", clock.turnsUntilStuck(), 0);
      clock.run(60);
      Checks.same("0 long behind it", clock.turnsUntilStuck(), 0);
    }
  }

  private static void turnsUntilStuckOfAll() {
    stuckAsForetold("busy", Clocks::busy);
    stuckAsForetold("full", Clocks::full);
    stuckAsForetold("full, at work", ForecastBounds::fullAtWork);
    Supplier<WaterFibers> waits = () -> {
      WaterFibers clock = Clocks.busy();
      clock.addStep(3, Clocks.TAKE, 2, 0);
      clock.addStep(3, Clocks.TAKE, 2, 0);
      return clock;
    };
    Checks.yes("busy, and one that will wait", waits.get().turnsUntilStuck() > 0);
    stuckAsForetold("busy, and one that will wait", waits);
  }

  private static void stuckAsForetold(String what, Supplier<WaterFibers> made) {
    int turns = made.get().turnsUntilStuck();
    int last = turns < 0 ? 200 : turns - 1;
    if (turns != 0) {
      Checks.no(what + ": not stuck in " + last, behind(made, last).isStuck());
    }
    if (turns >= 0) {
      Checks.yes(what + ": stuck in " + turns, behind(made, turns).isStuck());
    }
  }

  private static void stuckByThen() {
    int[] due = {199, 200, -1, -1};
    for (int turns = 199; turns <= 202; turns++) {
      Checks.same("stuck in " + turns, stuckIn(turns).turnsUntilStuck(), due[turns - 199]);
    }
    Checks.same("without fibers", new WaterFibers().turnsUntilStuck(), -1);
    Checks.same("with all done", Clocks.of(8).turnsUntilStuck(), -1);
    Checks.same("with all done in a turn", lasting(1).turnsUntilStuck(), -1);
    Checks.same("with all done in 200", lasting(200).turnsUntilStuck(), -1);
    WaterFibers poured = stuckIn(1);
    poured.run(1);
    poured.pour(0, 1);
    Checks.same("with the last drop there", poured.turnsUntilStuck(), -1);
  }

  private static void stuckChangesNothing() {
    Twins.unchanged("turnsUntilStuck(), new", WaterFibers::new, WaterFibers::turnsUntilStuck);
    Twins.unchanged("turnsUntilStuck(), busy", Clocks::busy, WaterFibers::turnsUntilStuck);
    Twins.unchanged("turnsUntilStuck(), full", Clocks::full, WaterFibers::turnsUntilStuck);
    Twins.unchanged("turnsUntilStuck(), not stuck", () -> lasting(60), WaterFibers::turnsUntilStuck);
  }

  /** The fiber 1 takes a drop in its turn number so many, 3 or more. */
  private static WaterFibers takesInTurn(int number) {
    WaterFibers clock = Clocks.of(2, 4);
    clock.pour(0, -999);
    Clocks.lasts(clock, 1, number);
    clock.addStep(1, Clocks.TAKE, 0, 0);
    return clock;
  }

  private static void sumBehindThem() {
    WaterFibers first = Clocks.of(1, 2);
    first.pour(0, 999);
    first.pour(0, 1);
    Clocks.steps(first, 0, Clocks.TAKE, 0, 0, Clocks.GIVE_WAY, 0, 0, Clocks.TAKE, 0, 0);
    Checks.same("sumIn(0, 1)", first.sumIn(0, 1), 999);
    Checks.same("sumIn(0, 2)", first.sumIn(0, 2), 1000);
    for (int turn : new int[] {3, 59, 60}) {
      Checks.same("ahead of the turn " + turn, takesInTurn(turn).sumIn(1, turn - 1), 0);
      Checks.same("behind the turn " + turn, takesInTurn(turn).sumIn(1, turn), -999);
      Checks.same("at the end", takesInTurn(turn).sumIn(1, 60), -999);
      Checks.same("of one without steps", takesInTurn(turn).sumIn(0, 60), 0);
    }
    Checks.same("ahead of the turn 61", takesInTurn(61).sumIn(1, 60), 0);
    WaterFibers later = takesInTurn(61);
    later.run(1);
    Checks.same("behind the turn 61, a turn later", later.sumIn(1, 60), -999);
  }

  private static void sumInOfEachState() {
    for (int turns = 1; turns <= 60; turns++) {
      WaterFibers busy = behind(Clocks::busy, turns);
      WaterFibers full = behind(ForecastBounds::fullAtWork, turns);
      for (int fiber = 0; fiber < 7; fiber++) {
        Checks.same("busy, " + fiber + " in " + turns, Clocks.busy().sumIn(fiber, turns),
            busy.sumOf(fiber));
        Checks.same("full, at work, " + fiber + " in " + turns, fullAtWork().sumIn(fiber, turns),
            full.sumOf(fiber));
      }
    }
  }

  private static void sumInChangesNothing() {
    for (int fiber = 0; fiber < 7; fiber++) {
      int number = fiber;
      Twins.unchanged("sumIn(" + fiber + ", 1)", Clocks::busy, clock -> clock.sumIn(number, 1));
      Twins.unchanged("sumIn(" + fiber + ", 60)", Clocks::busy, clock -> clock.sumIn(number, 60));
      Twins.unchanged("sumIn(" + fiber + ", 60), full", Clocks::full,
          clock -> clock.sumIn(number, 60));
    }
  }

  private static void turnsOneToSixty() {
    for (int turns : Bounds.outside(1, 60)) {
      Twins.refused("sumIn(0, " + turns + ")", IllegalArgumentException.class, Clocks::busy,
          clock -> clock.sumIn(0, turns));
      Twins.refused("sumIn(7, " + turns + "), full", IllegalArgumentException.class, Clocks::full,
          clock -> clock.sumIn(7, turns));
    }
    for (int turns : new int[] {1, 2, 59, 60}) {
      Checks.same("sumIn(0, " + turns + ")", takesInTurn(61).sumIn(0, turns), 0);
    }
  }

  private static void sumInWrapsAround() {
    WaterFibers clock = Clocks.nearTheEnd(1);
    clock.pour(0, 1);
    Checks.same("to the greatest int", clock.sumIn(0, 60), Integer.MAX_VALUE);
    clock.run(2);
    clock.pour(0, 1);
    Checks.same("over it", clock.sumIn(0, 60), Integer.MIN_VALUE);
    clock.run(2);
    clock.pour(0, -1);
    Checks.same("and back", clock.sumIn(0, 60), Integer.MAX_VALUE);
  }

  private static void placesFromThoseThereOnToEight() {
    for (int places = 1; places <= 4; places++) {
      for (int held = 0; held <= places; held++) {
        for (int sends = 0; sends <= 12; sends++) {
          WaterFibers clock = Clocks.of(1, places);
          for (int drop = 0; drop < held; drop++) {
            clock.pour(0, drop);
          }
          for (int step = 0; step < sends; step++) {
            clock.addStep(0, step % 2 == 0 ? Clocks.SEND : Clocks.SEND_SUM, 0, step);
          }
          int drops = held + sends;
          Checks.same(sends + " sent to " + held + " in " + places, clock.placesWanted(0),
              drops > 8 ? -1 : Math.max(drops, places));
        }
      }
    }
  }

  /** The drops that were sent into more places than it has are kept in order, and taken. */
  private static void placesFromNowOn() {
    WaterFibers clock = Clocks.of(2, 1, 4);
    for (int step = 0; step < 8; step++) {
      clock.addStep(0, Clocks.SEND, 0, step);
    }
    Clocks.steps(clock, 1, Clocks.WAIT_FOR, 0, 0, Clocks.TAKE, 0, 0, Clocks.SEND_SUM, 1, 0,
        Clocks.TAKE, 0, 0, Clocks.SEND_SUM, 1, 0);
    Checks.same("8 are sent ahead of the first that is taken", clock.placesWanted(0), 8);
    Checks.same("from now on, and not before", clock.turnsUntilDone(0), -1);
    clock.addStep(0, Clocks.SEND, 0, 8);
    Checks.same("9 are sent ahead of the first that is taken", clock.placesWanted(0), -1);
    WaterFibers two = Clocks.of(1, 1, 1);
    Clocks.steps(two, 0, Clocks.SEND, 0, 1, Clocks.SEND, 0, 2, Clocks.SEND, 1, 3);
    Checks.same("just the one that is asked has more", two.placesWanted(0), 2);
    Checks.same("the other one has too few", two.placesWanted(1), -1);
    for (int places = 2; places <= 8; places++) {
      WaterFibers taken = Clocks.of(2, 1);
      for (int step = 0; step < places; step++) {
        taken.addStep(0, Clocks.SEND, 0, step);
      }
      Clocks.steps(taken, 1, Clocks.WAIT_FOR, 0, 0, Clocks.TAKE, 0, 0, Clocks.GO_BACK, 1,
          places - 1, Clocks.GIVE_WAY, 0, 0);
      Checks.same(places + " are sent, and all are taken", taken.placesWanted(0), places);
    }
  }

  private static void placesForAllFibers() {
    for (int waits = 0; waits < 8; waits++) {
      WaterFibers clock = Clocks.of(8, 1, 1);
      Clocks.steps(clock, (waits + 1) % 8, Clocks.SEND, 0, 1, Clocks.SEND, 0, 2);
      Checks.same("with all that can be done", clock.placesWanted(0), 2);
      clock.addStep(waits, Clocks.TAKE, 1, 0);
      Checks.same("with " + waits + " that waits ever after", clock.placesWanted(0), -1);
    }
    Checks.same("without fibers", Clocks.of(0, 3).placesWanted(0), 3);
    Checks.same("with all done", Clocks.of(8, 4).placesWanted(0), 4);
    Checks.same("without fibers, full", Clocks.sized(0, 4).placesWanted(0), 1);
  }

  private static void placesInHundredTurns() {
    int[] due = {1, 1, -1, -1};
    for (int turns = 99; turns <= 102; turns++) {
      Checks.same("one that lasts " + turns, lasting(turns).placesWanted(0), due[turns - 99]);
    }
    Checks.same("with 100 of 150 left", behind(() -> lasting(150), 50).placesWanted(0), 1);
    Checks.same("with 101 of 150 left", behind(() -> lasting(150), 49).placesWanted(0), -1);
    for (int taken = 18; taken <= 21; taken++) {
      WaterFibers clock = Clocks.of(2, 1);
      Clocks.steps(clock, 0, Clocks.SEND, 0, 1, Clocks.SEND, 0, 2);
      Clocks.lasts(clock, 0, 81);
      Clocks.steps(clock, 1, Clocks.SLEEP, taken - 1, 0, Clocks.TAKE, 0, 0, Clocks.TAKE, 0, 0);
      Checks.same("with one place in " + (82 + taken), clock.turnsUntilDone(0), 82 + taken);
      Checks.same("with two places sooner", clock.placesWanted(0), taken <= 18 ? 1 : 2);
    }
  }

  /** A drop that is poured later, or a step that is added, is not foretold. */
  private static void placesIfNothingElse() {
    WaterFibers clock = Clocks.of(1, 1, 2);
    Clocks.steps(clock, 0, Clocks.TAKE, 0, 0);
    Checks.same("without the drop", clock.placesWanted(0), -1);
    Checks.same("without the drop, the other channel", clock.placesWanted(1), -1);
    clock.pour(0, 1);
    Checks.same("with the drop", clock.placesWanted(0), 1);
    Checks.same("with the drop, the other channel", clock.placesWanted(1), 2);
    Clocks.steps(clock, 0, Clocks.SEND, 1, 1, Clocks.SEND, 1, 2, Clocks.SEND, 1, 3);
    Checks.same("with three steps more", clock.placesWanted(1), 3);
  }

  private static void sendersWaitAllTheSame() {
    WaterFibers clock = Clocks.of(3, 1);
    Clocks.steps(clock, 0, Clocks.SEND, 0, 1, Clocks.SEND, 0, 2);
    Checks.same("ahead of its turn", clock.placesWanted(0), 2);
    clock.run(1);
    Checks.same("while it waits, and none is taken", clock.placesWanted(0), -1);
    Clocks.steps(clock, 1, Clocks.SLEEP, 2, 0, Clocks.TAKE, 0, 0);
    Checks.same("till one is taken", clock.placesWanted(0), 1);
    Clocks.steps(clock, 0, Clocks.SEND, 0, 3);
    Checks.same("and then it has more", clock.placesWanted(0), 2);
    WaterFibers two = Clocks.of(3, 1);
    Clocks.steps(two, 0, Clocks.SEND, 0, 1, Clocks.SEND, 0, 2);
    Clocks.steps(two, 1, Clocks.SEND, 0, 3);
    two.run(2);
    Clocks.steps(two, 2, Clocks.TAKE, 0, 0);
    Checks.same("one is taken, and two wait", two.placesWanted(0), -1);
  }

  private static void noneIsWanted() {
    WaterFibers clock = Clocks.of(1, 4);
    for (int step = 0; step < 9; step++) {
      clock.addStep(0, Clocks.SEND, 0, step);
    }
    Checks.same("9 drops", clock.placesWanted(0), -1);
    WaterFibers takes = Clocks.of(1, 4);
    Clocks.steps(takes, 0, Clocks.TAKE, 0, 0);
    Checks.same("no drop", takes.placesWanted(0), -1);
    takes.run(1);
    Checks.same("no drop, and it waits", takes.placesWanted(0), -1);
    takes.pour(0, 1);
    Checks.same("a drop", takes.placesWanted(0), 4);
  }

  private static void placesWantedChangesNothing() {
    for (int channel = 0; channel < 3; channel++) {
      int number = channel;
      Twins.unchanged("placesWanted(" + channel + ")", Clocks::busy,
          clock -> clock.placesWanted(number));
      Twins.unchanged("placesWanted(" + channel + "), full", Clocks::full,
          clock -> clock.placesWanted(number));
      Twins.unchanged("placesWanted(" + channel + "), all done", () -> Clocks.of(8, 1, 2, 3),
          clock -> clock.placesWanted(number));
    }
  }

  private static void meanTurns() {
    for (int fibers = 1; fibers <= 8; fibers++) {
      WaterFibers clock = Clocks.of(fibers);
      Checks.sameMean("of " + fibers + " without a turn", clock.meanTurns(), 0);
      Clocks.steps(clock, fibers - 1, Clocks.GIVE_WAY, 0, 0, Clocks.GO_BACK, 0, 9,
          Clocks.GO_BACK, 0, 9);
      for (int turns = 1; turns <= 9; turns++) {
        clock.run(1);
        Checks.sameMean("of " + fibers + " with " + turns, clock.meanTurns(), turns / (double) fibers);
      }
    }
    WaterFibers all = Clocks.of(8);
    for (int fiber = 0; fiber < 8; fiber++) {
      for (int step = 0; step <= fiber; step++) {
        all.addStep(fiber, Clocks.GIVE_WAY, 0, 0);
      }
    }
    for (int turns = 0; turns <= 36; turns++) {
      Checks.sameMean("of eight with " + turns, all.meanTurns(), turns / 8.0);
      all.run(1);
    }
    Checks.sameMean("of eight with all", all.meanTurns(), 4.5);
    WaterFibers idle = Clocks.of(3);
    idle.run(60);
    Checks.sameMean("behind idle turns", idle.meanTurns(), 0);
  }

  private static void meanWithoutAny() {
    WaterFibers clock = new WaterFibers();
    Checks.sameMean("new", clock.meanTurns(), 0);
    clock.addChannel(1);
    clock.run(60);
    Checks.sameMean("behind 60 turns", clock.meanTurns(), 0);
  }

  private static BigInteger fold(int... numbers) {
    BigInteger d = BigInteger.valueOf(2213);
    for (int number : numbers) {
      d = d.multiply(BigInteger.valueOf(31)).add(BigInteger.valueOf(number));
    }
    return d;
  }

  private static void digestIs(String what, WaterFibers clock, int... numbers) {
    Checks.same(what, clock.digest(), fold(numbers).longValue());
  }

  private static void digestChangesNothing() {
    Twins.unchanged("digest(), new", WaterFibers::new, WaterFibers::digest);
    Twins.unchanged("digest(), busy", Clocks::busy, WaterFibers::digest);
    Twins.unchanged("digest(), full", Clocks::full, WaterFibers::digest);
    WaterFibers clock = Clocks.busy();
    Checks.same("the same again", clock.digest(), clock.digest());
  }

  private static void digestStepByStep() {
    long d = 2213;
    for (int x : new int[] {60, 0, 0, 0, 60, -1, 0, -1}) {
      d = d * 31 + x;
    }
    WaterFibers clock = new WaterFibers();
    clock.run(60);
    Checks.same("eight numbers", clock.digest(), d);
    clock.addFiber();
    digestIs("and seven more", clock, 60, 0, 1, 1, 60, -1, 0, -1, 5, 0, 0, 0, 0, -1, 0);
  }

  /** The eight numbers of the clock are all different. */
  private static void digestOfTheClock() {
    WaterFibers clock = Clocks.of(5, 1, 1);
    Clocks.steps(clock, 0, Clocks.TAKE, 0, 0);
    Clocks.steps(clock, 1, Clocks.SLEEP, 5, 0, Clocks.TAKE, 0, 0);
    clock.run(6);
    digestIs("one sleeps", clock, 6, 2, 5, 3, 4, -1, 0, 1, 0, 0, 1, -1, 0, 0, 0, -1,
        2, 0, 0, 0, 1, -1, -1, 3, 1, 0, 1, 1, -1, -1,
        5, 0, 0, 0, 0, -1, 0, 5, 0, 0, 0, 0, -1, 0, 5, 0, 0, 0, 0, -1, 0);
    clock.run(1);
    digestIs("stuck", clock, 7, 2, 5, 3, 4, -1, 1, 0, 0, 0, 2, -1, 0, 0, 0, -1,
        2, 0, 0, 0, 1, -1, -1, 2, 1, 0, 1, 2, -1, -1,
        5, 0, 0, 0, 0, -1, 0, 5, 0, 0, 0, 0, -1, 0, 5, 0, 0, 0, 0, -1, 0);
  }

  private static void digestOfNothing() {
    Checks.same("new", new WaterFibers().digest(), 1887447865855971L);
  }

  private static void digestWrapsAround() {
    int[] numbers = {0, 1, 0, 0, 0, -1, 0, -1, 3, 999, -999, 1, 0, 0, 4};
    WaterFibers clock = Clocks.of(0, 4);
    clock.pour(0, 999);
    clock.pour(0, -999);
    clock.pour(0, 1);
    Checks.yes("the sum is greater than 64 bits hold", fold(numbers).bitLength() > 63);
    digestIs("a channel", clock, numbers);
    WaterFibers least = Clocks.nearTheEnd(-1);
    least.pour(0, -1);
    least.run(2);
    least.pour(0, -1);
    least.run(2);
    int turns = least.turnsOf(0);
    int time = least.time();
    digestIs("with the least int", least, time, 2, 1, 0, time - turns, -1, 1, 0,
        0, 0, 1, -1, 0, 0, 0, -1, 2, 10, Integer.MIN_VALUE, least.stepsDone(0), turns, -1, -1);
  }

  private static void digestOfStuck() {
    WaterFibers clock = Clocks.of(1, 1);
    Clocks.steps(clock, 0, Clocks.TAKE, 0, 0);
    digestIs("ahead of it", clock, 0, 1, 1, 0, 0, 0, 0, 1, 0, 0, 0, -1, 0, 0, 0, 0, 0, 0, -1);
    clock.run(1);
    digestIs("stuck", clock, 1, 1, 1, 0, 0, -1, 1, 0, 0, 0, 1, -1, 2, 0, 0, 0, 1, -1, -1);
  }

  private static void digestOfChannels() {
    WaterFibers clock = Clocks.of(0, 1, 2, 3, 4);
    clock.pour(0, -1);
    clock.pour(2, 5);
    clock.pour(2, 6);
    clock.pour(2, 7);
    clock.run(60);
    digestIs("empty and full ones", clock, 60, 4, 0, 0, 60, -1, 0, -1, 1, -1, 0, 0, 1, 0, 0, 0, 2,
        3, 5, 6, 7, 0, 0, 3, 0, 0, 0, 4);
  }

  private static void digestOfFibers() {
    WaterFibers clock = Clocks.of(3);
    Clocks.steps(clock, 2, Clocks.GIVE_WAY, 0, 0, Clocks.GIVE_WAY, 0, 0);
    Clocks.steps(clock, 0, Clocks.SLEEP, 3, 0);
    clock.run(2);
    digestIs("each", clock, 2, 0, 3, 1, 0, 2, 0, -1, 3, 1, 0, 1, 1, -1, 3, 5, 0, 0, 0, 0, -1, 0,
        0, 1, 0, 1, 1, 0, 1);
  }

  private static void digestOfAll() {
    for (int turns = 1; turns <= 30; turns++) {
      WaterFibers busy = Clocks.busy();
      WaterFibers full = Clocks.full();
      busy.run(turns);
      full.run(turns);
      Checks.same("busy, behind " + turns, busy.digest(), Digests.of(busy));
      Checks.same("full, behind " + turns, full.digest(), Digests.of(full));
    }
  }
}
