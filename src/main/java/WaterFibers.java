/** A water clock with fibers that work in turns. */
public final class WaterFibers {
  private static final int MOST_CHANNELS = 4;
  private static final int MOST_PLACES = 4;
  private static final int MOST_FIBERS = 8;
  private static final int MOST_STEPS = 12;
  private static final int MOST_VALUE = 999;
  private static final int MOST_SLEEP = 20;
  private static final int MOST_BACKS = 9;
  private static final int MOST_TURNS = 60;
  private static final int STEPS_A_TURN = 4;
  private static final int TURNS_FORETOLD = 200;
  private static final int PLACES_TRIED = 8;
  private static final int TURNS_TRIED = 100;
  /** All fibers find room in a queue, and as many drops as a channel is ever tried with. */
  private static final int MOST_QUEUED = 8;

  private static final int READY = 0;
  private static final int WAITS_TO_SEND = 1;
  private static final int WAITS_TO_TAKE = 2;
  private static final int SLEEPS = 3;
  private static final int WAITS_FOR_FIBER = 4;
  private static final int DONE = 5;

  private static final int SEND = 0;
  private static final int TAKE = 1;
  private static final int SLEEP = 2;
  private static final int GIVE_WAY = 3;
  private static final int WAIT_FOR = 4;
  private static final int GO_BACK = 5;
  private static final int SEND_SUM = 6;

  private static final int NONE = -1;

  private final Clock real;
  /** Kept and used again, so that a question about what would be makes no new objects. */
  private final Clock trial;

  public WaterFibers() {
    real = new Clock();
    trial = new Clock();
  }

  // ---- what there is

  public int addChannel(int places) throws IllegalArgumentException, IllegalStateException {
    if (places < 1 || places > MOST_PLACES) {
      throw new IllegalArgumentException("places is not 1 to 4");
    }
    if (real.channelCount >= MOST_CHANNELS) {
      throw new IllegalStateException("there are 4 channels");
    }
    int number = real.channelCount;
    real.channelAt(number).places = places;
    real.channelCount++;
    return number;
  }

  public int addFiber() throws IllegalStateException {
    if (real.fiberCount >= MOST_FIBERS) {
      throw new IllegalStateException("there are 8 fibers");
    }
    int number = real.fiberCount;
    real.fiberCount++;
    return number;
  }

  public int addStep(int fiber, int kind, int one, int two)
      throws IndexOutOfBoundsException, IllegalArgumentException, IllegalStateException {
    checkFiber(fiber);
    if (!isStep(fiber, kind, one, two)) {
      throw new IllegalArgumentException("there is no such kind, or one or two does not fit it");
    }
    Fiber owner = real.fiberAt(fiber);
    if (owner.stepCount >= MOST_STEPS) {
      throw new IllegalStateException("the fiber has 12 steps");
    }
    int number = owner.stepCount;
    owner.stepAt(number).describe(kind, one, two);
    owner.stepCount++;
    if (owner.state == DONE) {
      real.makeReady(owner);
    }
    return number;
  }

  public int pour(int channel, int value)
      throws IndexOutOfBoundsException, IllegalArgumentException, IllegalStateException {
    checkChannel(channel);
    if (!isValue(value)) {
      throw new IllegalArgumentException("value is not -999 to 999");
    }
    Channel filled = real.channelAt(channel);
    if (!filled.hasRoom()) {
      throw new IllegalStateException("the channel has no room");
    }
    filled.drops.addLast(value);
    real.wakeFirst(filled.takers);
    return filled.drops.size;
  }

  public int run(int turns) throws IllegalArgumentException {
    checkTurns(turns);
    int idleBefore = real.idle;
    for (int i = 0; i < turns; i++) {
      real.letTurnGoBy();
    }
    return real.idle - idleBefore;
  }

  // ---- the clock

  public int time() {
    return real.now;
  }

  public int channels() {
    return real.channelCount;
  }

  public int fibers() {
    return real.fiberCount;
  }

  public int done() {
    return real.countDone();
  }

  public int idleTurns() {
    return real.idle;
  }

  public int next() {
    return real.line.look(0);
  }

  public boolean isStuck() {
    return real.hasStopped() && !real.allAreDone();
  }

  // ---- channels

  public int held(int channel) throws IndexOutOfBoundsException {
    checkChannel(channel);
    return real.channelAt(channel).drops.size;
  }

  public int valueAt(int channel, int drop) throws IndexOutOfBoundsException {
    checkChannel(channel);
    Queue drops = real.channelAt(channel).drops;
    if (drop < 0 || drop >= drops.size) {
      throw new IndexOutOfBoundsException("there is no such drop");
    }
    return drops.look(drop);
  }

  public int sendersAt(int channel) throws IndexOutOfBoundsException {
    checkChannel(channel);
    return real.channelAt(channel).senders.size;
  }

  public int takersAt(int channel) throws IndexOutOfBoundsException {
    checkChannel(channel);
    return real.channelAt(channel).takers.size;
  }

  // ---- fibers

  public int stateOf(int fiber) throws IndexOutOfBoundsException {
    checkFiber(fiber);
    return real.fiberAt(fiber).state;
  }

  public int placeOf(int fiber) throws IndexOutOfBoundsException {
    checkFiber(fiber);
    return real.fiberAt(fiber).place;
  }

  public int sumOf(int fiber) throws IndexOutOfBoundsException {
    checkFiber(fiber);
    return real.fiberAt(fiber).sum;
  }

  public int stepsDone(int fiber) throws IndexOutOfBoundsException {
    checkFiber(fiber);
    return real.fiberAt(fiber).stepsBehind;
  }

  public int turnsOf(int fiber) throws IndexOutOfBoundsException {
    checkFiber(fiber);
    return real.fiberAt(fiber).turnsHad;
  }

  public int placeInLine(int fiber) throws IndexOutOfBoundsException {
    checkFiber(fiber);
    return real.line.find(fiber);
  }

  // ---- what would be

  public int turnsUntilDone(int fiber) throws IndexOutOfBoundsException {
    checkFiber(fiber);
    trial.becomeLike(real);
    Fiber watched = trial.fiberAt(fiber);
    int turns = 0;
    while (turns < TURNS_FORETOLD && watched.state != DONE && !trial.hasStopped()) {
      trial.letTurnGoBy();
      turns++;
    }
    return watched.state == DONE ? turns : NONE;
  }

  public int turnsUntilStuck() {
    trial.becomeLike(real);
    int turns = 0;
    while (turns < TURNS_FORETOLD && !trial.hasStopped()) {
      trial.letTurnGoBy();
      turns++;
    }
    return trial.hasStopped() && !trial.allAreDone() ? turns : NONE;
  }

  public int sumIn(int fiber, int turns)
      throws IndexOutOfBoundsException, IllegalArgumentException {
    checkFiber(fiber);
    checkTurns(turns);
    trial.becomeLike(real);
    for (int i = 0; i < turns; i++) {
      trial.letTurnGoBy();
    }
    return trial.fiberAt(fiber).sum;
  }

  public int placesWanted(int channel) throws IndexOutOfBoundsException {
    checkChannel(channel);
    for (int places = real.channelAt(channel).places; places <= PLACES_TRIED; places++) {
      trial.becomeLike(real);
      trial.channelAt(channel).places = places;
      for (int i = 0; i < TURNS_TRIED && !trial.hasStopped(); i++) {
        trial.letTurnGoBy();
      }
      if (trial.allAreDone()) {
        return places;
      }
    }
    return NONE;
  }

  public double meanTurns() {
    if (real.fiberCount <= 0) {
      return 0;
    }
    int all = 0;
    for (int i = 0; i < real.fiberCount; i++) {
      all += real.fiberAt(i).turnsHad;
    }
    return (double) all / real.fiberCount;
  }

  public long digest() {
    long d = 2213;
    d = d * 31 + time();
    d = d * 31 + channels();
    d = d * 31 + fibers();
    d = d * 31 + done();
    d = d * 31 + idleTurns();
    d = d * 31 + next();
    d = d * 31 + (isStuck() ? 1 : 0);
    d = d * 31 + turnsUntilStuck();
    int channelCount = channels();
    for (int channel = 0; channel < channelCount; channel++) {
      int drops = held(channel);
      d = d * 31 + drops;
      for (int drop = 0; drop < drops; drop++) {
        d = d * 31 + valueAt(channel, drop);
      }
      d = d * 31 + sendersAt(channel);
      d = d * 31 + takersAt(channel);
      d = d * 31 + placesWanted(channel);
    }
    int fiberCount = fibers();
    for (int fiber = 0; fiber < fiberCount; fiber++) {
      d = d * 31 + stateOf(fiber);
      d = d * 31 + placeOf(fiber);
      d = d * 31 + sumOf(fiber);
      d = d * 31 + stepsDone(fiber);
      d = d * 31 + turnsOf(fiber);
      d = d * 31 + placeInLine(fiber);
      d = d * 31 + turnsUntilDone(fiber);
    }
    return d;
  }

  private void checkChannel(int channel) {
    if (!isChannel(channel)) {
      throw new IndexOutOfBoundsException("there is no such channel");
    }
  }

  private void checkFiber(int fiber) {
    if (!isFiber(fiber)) {
      throw new IndexOutOfBoundsException("there is no such fiber");
    }
  }

  private void checkTurns(int turns) {
    if (turns < 1 || turns > MOST_TURNS) {
      throw new IllegalArgumentException("turns is not 1 to 60");
    }
  }

  private boolean isChannel(int number) {
    return number >= 0 && number < real.channelCount;
  }

  private boolean isFiber(int number) {
    return number >= 0 && number < real.fiberCount;
  }

  private boolean isValue(int value) {
    return value >= -MOST_VALUE && value <= MOST_VALUE;
  }

  private boolean isStep(int fiber, int kind, int one, int two) {
    switch (kind) {
      case SEND:
        return isChannel(one) && isValue(two);
      case TAKE:
      case SEND_SUM:
        return isChannel(one);
      case SLEEP:
        return one >= 1 && one <= MOST_SLEEP;
      case GIVE_WAY:
        return true;
      case WAIT_FOR:
        return isFiber(one) && one != fiber;
      case GO_BACK:
        return one >= 0 && one <= real.fiberAt(fiber).stepCount && two >= 1 && two <= MOST_BACKS;
      default:
        return false;
    }
  }

  /** Numbers in the order in which they came; drops, or fibers that stand in a line. */
  private static final class Queue {
    private final int[] cells = new int[MOST_QUEUED];
    int size;

    int look(int index) {
      return index >= 0 && index < size && index < cells.length ? cells[index] : NONE;
    }

    int find(int number) {
      for (int i = 0; i < size && i < cells.length; i++) {
        if (cells[i] == number) {
          return i;
        }
      }
      return NONE;
    }

    void addLast(int number) {
      if (size >= 0 && size < cells.length) {
        cells[size] = number;
        size++;
      }
    }

    /** Takes the first number out; NONE if there is none. */
    int takeFirst() {
      if (size <= 0 || cells.length == 0) {
        return NONE;
      }
      int first = cells[0];
      for (int i = 1; i < size && i < cells.length; i++) {
        cells[i - 1] = cells[i];
      }
      size--;
      return first;
    }

    void becomeLike(Queue other) {
      size = other.size;
      for (int i = 0; i < cells.length; i++) {
        cells[i] = other.look(i);
      }
    }
  }

  private static final class Channel {
    int places;
    final Queue drops = new Queue();
    final Queue senders = new Queue();
    final Queue takers = new Queue();

    boolean hasRoom() {
      return drops.size < places;
    }

    void becomeLike(Channel other) {
      places = other.places;
      drops.becomeLike(other.drops);
      senders.becomeLike(other.senders);
      takers.becomeLike(other.takers);
    }
  }

  private static final class Step {
    int kind = GIVE_WAY;
    int one;
    int two;
    /** How many times a step that goes back did so, since it last went on. */
    int backs;

    void describe(int newKind, int newOne, int newTwo) {
      kind = newKind;
      one = newOne;
      two = newTwo;
    }

    void becomeLike(Step other) {
      kind = other.kind;
      one = other.one;
      two = other.two;
      backs = other.backs;
    }
  }

  private static final class Fiber {
    final int number;
    int state = DONE;
    int place;
    int sum;
    int stepsBehind;
    int turnsHad;
    int wakesAt;
    int stepCount;
    private final Step[] steps = new Step[MOST_STEPS];
    /** Stands for a step that is not there, so that none is ever null. */
    private final Step noStep = new Step();

    Fiber(int ownNumber) {
      number = ownNumber;
      for (int i = 0; i < steps.length; i++) {
        steps[i] = new Step();
      }
    }

    Step stepAt(int index) {
      if (index < 0 || index >= steps.length) {
        return noStep;
      }
      Step step = steps[index];
      return step == null ? noStep : step;
    }

    boolean hasStepsLeft() {
      return place < stepCount;
    }

    void moveOn() {
      place++;
      stepsBehind++;
    }

    void goBack(Step step) {
      if (step.backs < step.two) {
        step.backs++;
        place = step.one;
        stepsBehind++;
      } else {
        step.backs = 0;
        moveOn();
      }
    }

    void becomeLike(Fiber other) {
      state = other.state;
      place = other.place;
      sum = other.sum;
      stepsBehind = other.stepsBehind;
      turnsHad = other.turnsHad;
      wakesAt = other.wakesAt;
      stepCount = other.stepCount;
      for (int i = 0; i < stepCount; i++) {
        stepAt(i).becomeLike(other.stepAt(i));
      }
    }
  }

  /** All that changes with the turns; one is real, and one tries what would be. */
  private static final class Clock {
    private final Channel[] channelRow = new Channel[MOST_CHANNELS];
    private final Fiber[] fiberRow = new Fiber[MOST_FIBERS];
    /** Stand for what is not there, so that none is ever null. */
    private final Channel noChannel = new Channel();
    private final Fiber noFiber = new Fiber(NONE);
    final Queue line = new Queue();
    int channelCount;
    int fiberCount;
    int now;
    int idle;

    Clock() {
      for (int i = 0; i < channelRow.length; i++) {
        channelRow[i] = new Channel();
      }
      for (int i = 0; i < fiberRow.length; i++) {
        fiberRow[i] = new Fiber(i);
      }
    }

    Channel channelAt(int number) {
      if (number < 0 || number >= channelRow.length) {
        return noChannel;
      }
      Channel channel = channelRow[number];
      return channel == null ? noChannel : channel;
    }

    Fiber fiberAt(int number) {
      if (number < 0 || number >= fiberRow.length) {
        return noFiber;
      }
      Fiber fiber = fiberRow[number];
      return fiber == null ? noFiber : fiber;
    }

    void becomeLike(Clock other) {
      channelCount = other.channelCount;
      fiberCount = other.fiberCount;
      now = other.now;
      idle = other.idle;
      line.becomeLike(other.line);
      for (int i = 0; i < channelCount; i++) {
        channelAt(i).becomeLike(other.channelAt(i));
      }
      for (int i = 0; i < fiberCount; i++) {
        fiberAt(i).becomeLike(other.fiberAt(i));
      }
    }

    int countDone() {
      int count = 0;
      for (int i = 0; i < fiberCount; i++) {
        if (fiberAt(i).state == DONE) {
          count++;
        }
      }
      return count;
    }

    boolean allAreDone() {
      return countDone() == fiberCount;
    }

    /** Whether no fiber is ready or sleeps: then turns alone change no fiber any more. */
    boolean hasStopped() {
      for (int i = 0; i < fiberCount; i++) {
        int state = fiberAt(i).state;
        if (state == READY || state == SLEEPS) {
          return false;
        }
      }
      return true;
    }

    void letTurnGoBy() {
      wakeSleepers();
      if (line.size <= 0) {
        idle++;
      } else {
        Fiber fiber = fiberAt(line.takeFirst());
        fiber.turnsHad++;
        boolean goesOn = true;
        for (int did = 0; did < STEPS_A_TURN && goesOn && fiber.hasStepsLeft(); did++) {
          goesOn = doStep(fiber);
        }
        endTurn(fiber);
      }
      now++;
    }

    void makeReady(Fiber fiber) {
      fiber.state = READY;
      line.addLast(fiber.number);
    }

    void wakeFirst(Queue waiting) {
      if (waiting.size > 0) {
        Fiber fiber = fiberAt(waiting.takeFirst());
        fiber.state = READY;
        line.addLast(fiber.number);
      }
    }

    private void wakeSleepers() {
      for (int i = 0; i < fiberCount; i++) {
        Fiber fiber = fiberAt(i);
        if (fiber.state == SLEEPS && fiber.wakesAt == now) {
          makeReady(fiber);
        }
      }
    }

    /** Tells whether the fiber may do a further step in this turn. */
    private boolean doStep(Fiber fiber) {
      Step step = fiber.stepAt(fiber.place);
      switch (step.kind) {
        case SEND:
          send(fiber, step.one, step.two);
          break;
        case SEND_SUM:
          send(fiber, step.one, fiber.sum);
          break;
        case TAKE:
          take(fiber, step.one);
          break;
        case SLEEP:
          fiber.wakesAt = now + step.one;
          fiber.state = SLEEPS;
          fiber.moveOn();
          break;
        case WAIT_FOR:
          waitFor(fiber, step.one);
          break;
        case GO_BACK:
          fiber.goBack(step);
          break;
        default:
          fiber.moveOn();
          return false;
      }
      return fiber.state == READY;
    }

    private void send(Fiber fiber, int number, int value) {
      Channel channel = channelAt(number);
      if (channel.hasRoom()) {
        channel.drops.addLast(value);
        wakeFirst(channel.takers);
        fiber.moveOn();
      } else {
        fiber.state = WAITS_TO_SEND;
        channel.senders.addLast(fiber.number);
      }
    }

    private void take(Fiber fiber, int number) {
      Channel channel = channelAt(number);
      if (channel.drops.size > 0) {
        fiber.sum += channel.drops.takeFirst();
        wakeFirst(channel.senders);
        fiber.moveOn();
      } else {
        fiber.state = WAITS_TO_TAKE;
        channel.takers.addLast(fiber.number);
      }
    }

    private void waitFor(Fiber fiber, int number) {
      if (fiberAt(number).state == DONE) {
        fiber.moveOn();
      } else {
        fiber.state = WAITS_FOR_FIBER;
      }
    }

    private void endTurn(Fiber fiber) {
      if (fiber.state != READY) {
        return;
      }
      if (fiber.hasStepsLeft()) {
        line.addLast(fiber.number);
        return;
      }
      fiber.state = DONE;
      for (int i = 0; i < fiberCount; i++) {
        Fiber other = fiberAt(i);
        if (other.state == WAITS_FOR_FIBER && other.stepAt(other.place).one == fiber.number) {
          makeReady(other);
        }
      }
    }
  }
}
