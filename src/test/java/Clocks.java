/** Clocks as the tests start from them. */
final class Clocks {
  static final int SEND = 0;
  static final int TAKE = 1;
  static final int SLEEP = 2;
  static final int GIVE_WAY = 3;
  static final int WAIT_FOR = 4;
  static final int GO_BACK = 5;
  static final int SEND_SUM = 6;

  static final int READY = 0;
  static final int WAITS_TO_SEND = 1;
  static final int WAITS_TO_TAKE = 2;
  static final int SLEEPS = 3;
  static final int WAITS_FOR_FIBER = 4;
  static final int DONE = 5;

  private Clocks() {
  }

  /** A clock with so many fibers, and a channel for each number of places. */
  static WaterFibers of(int fibers, int... places) {
    WaterFibers clock = new WaterFibers();
    for (int i = 0; i < fibers; i++) {
      clock.addFiber();
    }
    for (int each : places) {
      clock.addChannel(each);
    }
    return clock;
  }

  /** Adds steps, each told by kind, one and two. */
  static void steps(WaterFibers clock, int fiber, int... numbers) {
    for (int i = 0; i + 2 < numbers.length; i += 3) {
      clock.addStep(fiber, numbers[i], numbers[i + 1], numbers[i + 2]);
    }
  }

  /** The states of all fibers, a digit each. */
  static String states(WaterFibers clock) {
    StringBuilder text = new StringBuilder();
    for (int i = 0; i < clock.fibers(); i++) {
      text.append(clock.stateOf(i));
    }
    return text.toString();
  }

  /** The fibers of the line, first to last. */
  static String line(WaterFibers clock) {
    char[] text = new char[clock.fibers()];
    int length = 0;
    for (int i = 0; i < clock.fibers(); i++) {
      int place = clock.placeInLine(i);
      if (place >= 0) {
        text[place] = (char) ('0' + i);
        length++;
      }
    }
    return new String(text, 0, length);
  }

  /** The drops of a channel, first to last. */
  static String drops(WaterFibers clock, int channel) {
    StringBuilder text = new StringBuilder();
    for (int i = 0; i < clock.held(channel); i++) {
      text.append(i == 0 ? "" : " ").append(clock.valueAt(channel, i));
    }
    return text.toString();
  }

  /** All that the questions of "what there is" answer; two clocks alike show the same. */
  static String shown(WaterFibers clock) {
    StringBuilder text = new StringBuilder();
    text.append(clock.time()).append(' ').append(clock.idleTurns()).append(' ');
    text.append(states(clock)).append(' ').append(line(clock));
    for (int i = 0; i < clock.channels(); i++) {
      text.append(" [").append(drops(clock, i)).append("] ");
      text.append(clock.sendersAt(i)).append(clock.takersAt(i));
    }
    for (int i = 0; i < clock.fibers(); i++) {
      text.append(' ').append(clock.placeOf(i)).append(' ').append(clock.sumOf(i));
      text.append(' ').append(clock.stepsDone(i)).append(' ').append(clock.turnsOf(i));
    }
    return text.toString();
  }
}
