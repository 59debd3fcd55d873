/** Clocks as the tests start from them. */
final class Clocks {
  static final int SEND = 0;
  static final int TAKE = 1;
  static final int SLEEP = 2;
  static final int GIVE_WAY = 3;
  static final int WAIT_FOR = 4;
  static final int GO_BACK = 5;
  static final int SEND_SUM = 6;

  static final int READY = 0;
  static final int WAITS_TO_SEND = 1;
  static final int WAITS_TO_TAKE = 2;
  static final int SLEEPS = 3;
  static final int WAITS_FOR_FIBER = 4;
  static final int DONE = 5;

  private Clocks() {
  }

  /** A clock with so many fibers, and a channel for each number of places. */
  static WaterFibers of(int fibers, int... places) {
    WaterFibers clock = new WaterFibers();
    for (int i = 0; i < fibers; i++) {
      clock.addFiber();
    }
    for (int each : places) {
      clock.addChannel(each);
    }
    return clock;
  }

  /** Adds steps, each told by kind, one and two. */
  static void steps(WaterFibers clock, int fiber, int... numbers) {
    for (int i = 0; i + 2 < numbers.length; i += 3) {
      clock.addStep(fiber, numbers[i], numbers[i + 1], numbers[i + 2]);
    }
  }

  /**
   * Fibers in each state, the first ones in the states 1, 2, 2, 3, 4, 0 and 5, the ready one in the
   * midst of going back; there is room for one channel and one fiber more. The channel 0 is full, the
   * channel 1 holds one drop and has room for two, and the channel 2 is empty.
   */
  static WaterFibers busy() {
    WaterFibers clock = of(7, 1, 3, 2);
    clock.pour(0, 7);
    clock.pour(1, 8);
    steps(clock, 0, SEND, 0, 5, GIVE_WAY, 0, 0);
    steps(clock, 1, TAKE, 2, 0, SEND_SUM, 1, 0);
    steps(clock, 2, TAKE, 2, 0);
    steps(clock, 3, SLEEP, 9, 0, TAKE, 0, 0, SEND, 2, 4, SEND, 2, 3);
    steps(clock, 4, WAIT_FOR, 3, 0, SLEEP, 2, 0);
    steps(clock, 5, GIVE_WAY, 0, 0, GO_BACK, 0, 9, SEND, 1, 2);
    clock.run(8);
    return clock;
  }

  /** As many channels, drops, fibers and steps as there can be: the channel i has i + 1 places. */
  static WaterFibers full() {
    WaterFibers clock = of(8, 1, 2, 3, 4);
    for (int channel = 0; channel < 4; channel++) {
      for (int drop = 0; drop <= channel; drop++) {
        clock.pour(channel, 10 * channel + drop);
      }
    }
    for (int fiber = 0; fiber < 8; fiber++) {
      for (int step = 0; step < 12; step++) {
        clock.addStep(fiber, fiber % 2 == 0 ? TAKE : SEND, step % 4, step);
      }
    }
    return clock;
  }

  /** So many fibers, some of them in turns, and so many channels, each with one drop. */
  static WaterFibers sized(int fibers, int channels) {
    WaterFibers clock = of(fibers);
    for (int channel = 0; channel < channels; channel++) {
      clock.addChannel(1 + channel);
      clock.pour(channel, channel);
    }
    for (int fiber = 0; fiber < fibers; fiber++) {
      steps(clock, fiber, SLEEP, 3, 0, GIVE_WAY, 0, 0);
    }
    clock.run(2);
    return clock;
  }

  /** A fiber that is done in so many turns, 1 to 221: it sleeps in pieces, and has a turn more. */
  static void lasts(WaterFibers clock, int fiber, int turns) {
    if (turns == 1) {
      clock.addStep(fiber, GIVE_WAY, 0, 0);
    }
    for (int left = turns - 1; left > 0; left -= 20) {
      clock.addStep(fiber, SLEEP, Math.min(left, 20), 0);
    }
  }

  /**
   * The fiber 0 has the sum (2^31 - 2) * unit, the unit being 1 or -1, and waits to take three drops
   * out of the channel 0, with a turn for each; then it sends its sum into the channel 1.
   */
  static WaterFibers nearTheEnd(int unit) {
    WaterFibers clock = of(1, 1, 1);
    steps(clock, 0, TAKE, 0, 0, GIVE_WAY, 0, 0, SEND_SUM, 1, 0, TAKE, 1, 0, GO_BACK, 0, 9,
        GO_BACK, 0, 2, TAKE, 0, 0, GIVE_WAY, 0, 0, TAKE, 0, 0, GIVE_WAY, 0, 0, TAKE, 0, 0,
        SEND_SUM, 1, 0);
    clock.run(1);
    for (int pass = 0; pass < 30; pass++) {
      clock.pour(0, unit);
      clock.run(3);
    }
    return clock;
  }

  /** The states of all fibers, a digit each. */
  static String states(WaterFibers clock) {
    StringBuilder text = new StringBuilder();
    for (int i = 0; i < clock.fibers(); i++) {
      text.append(clock.stateOf(i));
    }
    return text.toString();
  }

  /** The fibers of the line, first to last. */
  static String line(WaterFibers clock) {
    char[] text = new char[clock.fibers()];
    int length = 0;
    for (int i = 0; i < clock.fibers(); i++) {
      int place = clock.placeInLine(i);
      if (place >= 0) {
        text[place] = (char) ('0' + i);
        length++;
      }
    }
    return new String(text, 0, length);
  }

  /** The drops of a channel, first to last. */
  static String drops(WaterFibers clock, int channel) {
    StringBuilder text = new StringBuilder();
    for (int i = 0; i < clock.held(channel); i++) {
      text.append(i == 0 ? "" : " ").append(clock.valueAt(channel, i));
    }
    return text.toString();
  }

  /** All that the questions of "what there is" answer; two clocks alike show the same. */
  static String shown(WaterFibers clock) {
    StringBuilder text = new StringBuilder();
    text.append(clock.time()).append(' ').append(clock.idleTurns()).append(' ');
    text.append(states(clock)).append(' ').append(line(clock));
    for (int i = 0; i < clock.channels(); i++) {
      text.append(" [").append(drops(clock, i)).append("] ");
      text.append(clock.sendersAt(i)).append(clock.takersAt(i));
    }
    for (int i = 0; i < clock.fibers(); i++) {
      text.append(' ').append(clock.placeOf(i)).append(' ').append(clock.sumOf(i));
      text.append(' ').append(clock.stepsDone(i)).append(' ').append(clock.turnsOf(i));
    }
    return text.toString();
  }
}
