/** The calls of the face by numbers, so that a test can make any of them. */
final class Calls {
  static final int ADD_CHANNEL = 0;
  static final int ADD_FIBER = 1;
  static final int ADD_STEP = 2;
  static final int POUR = 3;
  static final int RUN = 4;
  static final int TIME = 5;
  static final int CHANNELS = 6;
  static final int FIBERS = 7;
  static final int DONE = 8;
  static final int IDLE_TURNS = 9;
  static final int NEXT = 10;
  static final int IS_STUCK = 11;
  static final int HELD = 12;
  static final int VALUE_AT = 13;
  static final int SENDERS_AT = 14;
  static final int TAKERS_AT = 15;
  static final int STATE_OF = 16;
  static final int PLACE_OF = 17;
  static final int SUM_OF = 18;
  static final int STEPS_DONE = 19;
  static final int TURNS_OF = 20;
  static final int PLACE_IN_LINE = 21;
  static final int TURNS_UNTIL_DONE = 22;
  static final int TURNS_UNTIL_STUCK = 23;
  static final int SUM_IN = 24;
  static final int PLACES_WANTED = 25;
  static final int MEAN_TURNS = 26;
  static final int DIGEST = 27;

  private Calls() {
  }

  static boolean changes(int number) {
    return number <= RUN;
  }

  static boolean asksChannel(int number) {
    return number >= HELD && number <= TAKERS_AT || number == PLACES_WANTED;
  }

  static boolean asksFiber(int number) {
    return number >= STATE_OF && number <= TURNS_UNTIL_DONE || number == SUM_IN;
  }

  /** Makes the call; a boolean answers 1 or 0, and a double by its bits. */
  static long make(WaterFibers clock, int[] call) {
    int a = call[1];
    int b = call[2];
    switch (call[0]) {
      case ADD_CHANNEL: return clock.addChannel(a);
      case ADD_FIBER: return clock.addFiber();
      case ADD_STEP: return clock.addStep(a, b, call[3], call[4]);
      case POUR: return clock.pour(a, b);
      case RUN: return clock.run(a);
      case TIME: return clock.time();
      case CHANNELS: return clock.channels();
      case FIBERS: return clock.fibers();
      case DONE: return clock.done();
      case IDLE_TURNS: return clock.idleTurns();
      case NEXT: return clock.next();
      case IS_STUCK: return clock.isStuck() ? 1 : 0;
      case HELD: return clock.held(a);
      case VALUE_AT: return clock.valueAt(a, b);
      case SENDERS_AT: return clock.sendersAt(a);
      case TAKERS_AT: return clock.takersAt(a);
      case STATE_OF: return clock.stateOf(a);
      case PLACE_OF: return clock.placeOf(a);
      case SUM_OF: return clock.sumOf(a);
      case STEPS_DONE: return clock.stepsDone(a);
      case TURNS_OF: return clock.turnsOf(a);
      case PLACE_IN_LINE: return clock.placeInLine(a);
      case TURNS_UNTIL_DONE: return clock.turnsUntilDone(a);
      case TURNS_UNTIL_STUCK: return clock.turnsUntilStuck();
      case SUM_IN: return clock.sumIn(a, b);
      case PLACES_WANTED: return clock.placesWanted(a);
      case MEAN_TURNS: return Double.doubleToLongBits(clock.meanTurns());
      default: return clock.digest();
    }
  }
}
