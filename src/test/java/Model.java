import java.util.ArrayList;
import java.util.List;

/**
 * The document told a second time, in another way than the class does: nobody stands in a queue, but
 * each fiber keeps when it came into its state, and what would be is found by doing all calls again.
 */
final class Model {
  private static final class Fiber {
    final List<int[]> steps = new ArrayList<>();
    final int[] backs = new int[12];
    int state = 5;
    int place;
    int sum;
    int steps0;
    int turns;
    int wakes;
    long since;
  }

  private static final class Channel {
    int places;
    final List<Integer> drops = new ArrayList<>();
  }

  private final List<Fiber> fibers = new ArrayList<>();
  private final List<Channel> channels = new ArrayList<>();
  private final List<int[]> history = new ArrayList<>();
  private int now;
  private int idle;
  private long moments;

  /** Does a call that changes something, told by its number in Calls, and answers as it is due. */
  long change(int[] call) {
    long answer = 0;
    switch (call[0]) {
      case Calls.ADD_CHANNEL:
        answer = channels.size();
        channels.add(new Channel());
        channels.get((int) answer).places = call[1];
        break;
      case Calls.ADD_FIBER:
        answer = fibers.size();
        fibers.add(new Fiber());
        break;
      case Calls.ADD_STEP:
        Fiber fiber = fibers.get(call[1]);
        answer = fiber.steps.size();
        fiber.steps.add(new int[] {call[2], call[3], call[4]});
        if (fiber.state == 5) {
          enter(fiber, 0);
        }
        break;
      case Calls.POUR:
        putDrop(call[1], call[2]);
        answer = channels.get(call[1]).drops.size();
        break;
      default:
        int before = idle;
        turns(call[1]);
        answer = idle - before;
        break;
    }
    history.add(call.clone());
    return answer;
  }

  /** Which exception is due: 0 none, 1 IndexOutOfBounds, 2 IllegalArgument, 3 IllegalState. */
  int exceptionOf(int[] call) {
    int a = call[1];
    int b = call[2];
    switch (call[0]) {
      case Calls.ADD_CHANNEL:
        return a < 1 || a > 4 ? 2 : channels.size() == 4 ? 3 : 0;
      case Calls.ADD_FIBER:
        return fibers.size() == 8 ? 3 : 0;
      case Calls.ADD_STEP:
        if (!isIn(a, fibers)) {
          return 1;
        }
        return !fits(a, b, call[3], call[4]) ? 2 : fibers.get(a).steps.size() == 12 ? 3 : 0;
      case Calls.POUR:
        if (!isIn(a, channels)) {
          return 1;
        }
        Channel channel = channels.get(a);
        return Math.abs((long) b) > 999 ? 2 : channel.drops.size() == channel.places ? 3 : 0;
      case Calls.RUN:
        return a < 1 || a > 60 ? 2 : 0;
      case Calls.VALUE_AT:
        return !isIn(a, channels) || !isIn(b, channels.get(a).drops) ? 1 : 0;
      case Calls.SUM_IN:
        return !isIn(a, fibers) ? 1 : b < 1 || b > 60 ? 2 : 0;
      default:
        return Calls.asksChannel(call[0]) && !isIn(a, channels)
            || Calls.asksFiber(call[0]) && !isIn(a, fibers) ? 1 : 0;
    }
  }

  private boolean fits(int fiber, int kind, int one, int two) {
    boolean isChannel = isIn(one, channels);
    boolean[] fit = {
      isChannel && Math.abs((long) two) <= 999, isChannel, one >= 1 && one <= 20, true,
      isIn(one, fibers) && one != fiber,
      one >= 0 && one <= fibers.get(fiber).steps.size() && two >= 1 && two <= 9, isChannel,
    };
    return kind >= 0 && kind < 7 && fit[kind];
  }

  private static boolean isIn(int index, List<?> list) {
    return index >= 0 && index < list.size();
  }

  /** Answers a question about what there is or would be. */
  long answer(int[] call) {
    int a = call[1];
    switch (call[0]) {
      case Calls.TIME: return now;
      case Calls.CHANNELS: return channels.size();
      case Calls.FIBERS: return fibers.size();
      case Calls.DONE: return count(5);
      case Calls.IDLE_TURNS: return idle;
      case Calls.NEXT: return oldest(0, -1);
      case Calls.IS_STUCK: return isStuck() ? 1 : 0;
      case Calls.HELD: return channels.get(a).drops.size();
      case Calls.VALUE_AT: return channels.get(a).drops.get(call[2]);
      case Calls.SENDERS_AT: return waiting(1, a);
      case Calls.TAKERS_AT: return waiting(2, a);
      case Calls.STATE_OF: return fibers.get(a).state;
      case Calls.PLACE_OF: return fibers.get(a).place;
      case Calls.SUM_OF: return fibers.get(a).sum;
      case Calls.STEPS_DONE: return fibers.get(a).steps0;
      case Calls.TURNS_OF: return fibers.get(a).turns;
      case Calls.PLACE_IN_LINE: return placeInLine(fibers.get(a));
      case Calls.TURNS_UNTIL_DONE: return again().turnsTill(a);
      case Calls.TURNS_UNTIL_STUCK: return again().turnsTill(-1);
      case Calls.SUM_IN:
        Model later = again();
        later.turns(call[2]);
        return later.fibers.get(a).sum;
      case Calls.PLACES_WANTED: return placesWanted(a);
      case Calls.MEAN_TURNS: return meanBits();
      default: return digest();
    }
  }

  private long digest() {
    long d = 2213;
    for (int question : new int[] {Calls.TIME, Calls.CHANNELS, Calls.FIBERS, Calls.DONE,
        Calls.IDLE_TURNS, Calls.NEXT, Calls.IS_STUCK, Calls.TURNS_UNTIL_STUCK}) {
      d = d * 31 + answer(new int[] {question, 0});
    }
    for (int channel = 0; channel < channels.size(); channel++) {
      d = d * 31 + channels.get(channel).drops.size();
      for (int drop : channels.get(channel).drops) {
        d = d * 31 + drop;
      }
      d = (d * 31 + waiting(1, channel)) * 31 + waiting(2, channel);
      d = d * 31 + placesWanted(channel);
    }
    for (int fiber = 0; fiber < fibers.size(); fiber++) {
      for (int question = Calls.STATE_OF; question <= Calls.TURNS_UNTIL_DONE; question++) {
        d = d * 31 + answer(new int[] {question, fiber});
      }
    }
    return d;
  }

  private Model again() {
    Model other = new Model();
    for (int[] call : history) {
      other.change(call);
    }
    return other;
  }

  private long meanBits() {
    long all = 0;
    for (Fiber fiber : fibers) {
      all += fiber.turns;
    }
    return Double.doubleToLongBits(fibers.isEmpty() ? 0 : all / (double) fibers.size());
  }

  /** In how many turns a fiber is done or, for the number -1, all are stuck. */
  private int turnsTill(int number) {
    for (int turns = 0; turns <= 200; turns++) {
      if (number < 0 ? isStuck() : fibers.get(number).state == 5) {
        return turns;
      }
      turns(1);
    }
    return -1;
  }

  private int placesWanted(int channel) {
    for (int places = channels.get(channel).places; places <= 8; places++) {
      Model other = again();
      other.channels.get(channel).places = places;
      other.turns(100);
      if (other.count(5) == fibers.size()) {
        return places;
      }
    }
    return -1;
  }

  private int count(int state) {
    int count = 0;
    for (Fiber fiber : fibers) {
      count += fiber.state == state ? 1 : 0;
    }
    return count;
  }

  private boolean isStuck() {
    return count(0) + count(3) == 0 && count(5) < fibers.size();
  }

  private int waiting(int state, int channel) {
    int count = 0;
    for (Fiber fiber : fibers) {
      count += fiber.state == state && fiber.steps.get(fiber.place)[1] == channel ? 1 : 0;
    }
    return count;
  }

  private int placeInLine(Fiber asked) {
    if (asked.state != 0) {
      return -1;
    }
    int ahead = 0;
    for (Fiber fiber : fibers) {
      ahead += fiber.state == 0 && fiber.since < asked.since ? 1 : 0;
    }
    return ahead;
  }

  /** The fiber that is longest in a state, for a channel if one is named; -1 without one. */
  private int oldest(int state, int channel) {
    int found = -1;
    for (int i = 0; i < fibers.size(); i++) {
      Fiber fiber = fibers.get(i);
      if (fiber.state == state && (channel < 0 || fiber.steps.get(fiber.place)[1] == channel)
          && (found < 0 || fiber.since < fibers.get(found).since)) {
        found = i;
      }
    }
    return found;
  }

  private void enter(Fiber fiber, int state) {
    fiber.state = state;
    fiber.since = moments++;
  }

  private void turns(int count) {
    for (int i = 0; i < count; i++) {
      turn();
    }
  }

  private void turn() {
    for (Fiber fiber : fibers) {
      if (fiber.state == 3 && fiber.wakes == now) {
        enter(fiber, 0);
      }
    }
    int first = oldest(0, -1);
    if (first < 0) {
      idle++;
    } else {
      own(first);
    }
    now++;
  }

  private void own(int number) {
    Fiber fiber = fibers.get(number);
    fiber.turns++;
    int before = fiber.steps0;
    while (fiber.place < fiber.steps.size() && fiber.steps0 - before < 4) {
      int kind = fiber.steps.get(fiber.place)[0];
      int done = fiber.steps0;
      step(fiber);
      if (kind == 2 || kind == 3 || done == fiber.steps0) {
        break;
      }
    }
    if (fiber.state != 0) {
      return;
    }
    if (fiber.place < fiber.steps.size()) {
      enter(fiber, 0);
      return;
    }
    fiber.state = 5;
    for (Fiber other : fibers) {
      if (other.state == 4 && other.steps.get(other.place)[1] == number) {
        enter(other, 0);
      }
    }
  }

  private void step(Fiber fiber) {
    int[] step = fiber.steps.get(fiber.place);
    int one = step[1];
    int kind = step[0];
    if (kind == 5) {
      boolean back = fiber.backs[fiber.place] < step[2];
      fiber.backs[fiber.place] = back ? fiber.backs[fiber.place] + 1 : 0;
      fiber.place = back ? one : fiber.place + 1;
      fiber.steps0++;
      return;
    }
    if (kind == 0 || kind == 6) {
      if (channels.get(one).drops.size() >= channels.get(one).places) {
        enter(fiber, 1);
        return;
      }
      putDrop(one, kind == 0 ? step[2] : fiber.sum);
    } else if (kind == 1) {
      if (channels.get(one).drops.isEmpty()) {
        enter(fiber, 2);
        return;
      }
      fiber.sum += channels.get(one).drops.remove(0);
      wake(1, one);
    } else if (kind == 2) {
      fiber.wakes = now + one;
      enter(fiber, 3);
    } else if (kind == 4 && fibers.get(one).state != 5) {
      enter(fiber, 4);
      return;
    }
    fiber.place++;
    fiber.steps0++;
  }

  private void putDrop(int channel, int value) {
    channels.get(channel).drops.add(value);
    wake(2, channel);
  }

  private void wake(int state, int channel) {
    int longest = oldest(state, channel);
    if (longest >= 0) {
      enter(fibers.get(longest), 0);
    }
  }
}
