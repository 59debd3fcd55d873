import java.util.Arrays;
import java.util.Random;

/**
 * Promises 1 to 29 on many runs, drawn from a fixed seed: the class answers as the model does. A run
 * keeps to the 512 calls that the document promises something about.
 */
final class ModelTests {
  private static final int RUNS = 4000;
  private static final int CALLS = 200;
  private static final int[] ODD = {
    -1000, -999, -1, 0, 1, 2, 9, 10, 12, 13, 20, 21, 60, 61, 999, 1000,
    Integer.MIN_VALUE, Integer.MAX_VALUE,
  };

  private final Random random;
  private final WaterFibers clock = new WaterFibers();
  private final Model model = new Model();
  private final String name;
  /** How often a run draws a wrong argument: one time in so many. */
  private final int rarity;
  private boolean differs;

  private ModelTests(int seed) {
    random = new Random(seed);
    name = "run " + seed + ": ";
    rarity = 10 + random.nextInt(60);
  }

  public static void main(String[] args) {
    for (int seed = 0; seed < RUNS; seed++) {
      new ModelTests(seed).go();
    }
    Checks.end("ModelTests");
  }

  private void go() {
    setUp();
    for (int i = 0; i < CALLS && !differs; i++) {
      compare(drawn());
      if (i % 10 == 0) {
        compare(call(Calls.DIGEST, 0, 0, 0, 0));
      }
    }
    compareAll();
  }

  private void setUp() {
    for (int left = random.nextInt(5); left > 0; left--) {
      compare(call(Calls.ADD_CHANNEL, 1 + random.nextInt(4), 0, 0, 0));
    }
    for (int left = random.nextInt(9); left > 0; left--) {
      compare(call(Calls.ADD_FIBER, 0, 0, 0, 0));
    }
    for (int left = random.nextInt(60); left > 0; left--) {
      compare(drawnStep());
    }
  }

  /** The model is asked, and not the clock, so that the clock's calls are not used up. */
  private int channels() {
    return (int) model.answer(call(Calls.CHANNELS, 0));
  }

  private int fibers() {
    return (int) model.answer(call(Calls.FIBERS, 0));
  }

  private int[] call(int... numbers) {
    return numbers;
  }

  private int[] drawn() {
    int lot = random.nextInt(100);
    if (lot < 4) {
      return call(Calls.ADD_CHANNEL, drawn(1, 4), 0, 0, 0);
    }
    if (lot < 8) {
      return call(Calls.ADD_FIBER, 0, 0, 0, 0);
    }
    if (lot < 24) {
      return drawnStep();
    }
    if (lot < 36) {
      return call(Calls.POUR, drawn(0, channels() - 1), drawn(-999, 999), 0, 0);
    }
    if (lot < 56) {
      return call(Calls.RUN, random.nextInt(4) == 0 ? drawn(1, 60) : drawn(1, 4), 0, 0, 0);
    }
    int question = Calls.TIME + random.nextInt(Calls.DIGEST - Calls.TIME);
    int last = Calls.asksChannel(question) ? channels() - 1 : fibers() - 1;
    int second = question == Calls.SUM_IN ? drawn(1, 60) : drawn(0, 3);
    return call(question, drawn(0, last), second, 0, 0);
  }

  private int[] drawnStep() {
    int fiber = drawn(0, fibers() - 1);
    int kind = drawn(0, 6);
    int one = drawn(0, channels() - 1);
    int two = drawn(-999, 999);
    if (kind == 2) {
      one = random.nextBoolean() ? drawn(1, 20) : drawn(1, 3);
    } else if (kind == 4) {
      one = drawn(0, fibers() - 1);
    } else if (kind == 5) {
      one = drawn(0, 11);
      two = drawn(1, 9);
    }
    return call(Calls.ADD_STEP, fiber, kind, one, two);
  }

  private int drawn(int least, int most) {
    if (most < least || random.nextInt(rarity) == 0) {
      return ODD[random.nextInt(ODD.length)];
    }
    return least + random.nextInt(most - least + 1);
  }

  private void compare(int[] call) {
    int due = model.exceptionOf(call);
    long answerDue = 0;
    if (due == 0) {
      answerDue = Calls.changes(call[0]) ? model.change(call) : model.answer(call);
    }
    int got = 0;
    long answer = 0;
    try {
      answer = Calls.make(clock, call);
    } catch (RuntimeException e) {
      got = numberOf(e.getClass());
    }
    String what = name + Arrays.toString(call);
    Checks.same(what + " throws", got, due);
    Checks.same(what, answer, answerDue);
    differs |= got != due || answer != answerDue;
  }

  private static int numberOf(Class<?> thrown) {
    return thrown == IndexOutOfBoundsException.class ? 1
        : thrown == IllegalArgumentException.class ? 2
        : thrown == IllegalStateException.class ? 3 : 4;
  }

  private void compareAll() {
    for (int question = Calls.TIME; question < Calls.DIGEST && !differs; question++) {
      int count = Calls.asksChannel(question) ? channels()
          : Calls.asksFiber(question) ? fibers() : 1;
      for (int i = 0; i < count && !differs; i++) {
        compare(call(question, i, question == Calls.SUM_IN ? 17 : 0, 0, 0));
      }
    }
    for (int channel = 0; channel < channels() && !differs; channel++) {
      for (int drop = 0; drop < 5 && !differs; drop++) {
        compare(call(Calls.VALUE_AT, channel, drop, 0, 0));
      }
    }
    if (!differs) {
      compare(call(Calls.DIGEST, 0, 0, 0, 0));
    }
  }
}
