/** The model behind the face of the class, so that a program for the class can be tried on it too. */
final class ModelFace {
  private final Model model = new Model();

  private long make(int... numbers) {
    int[] call = java.util.Arrays.copyOf(numbers, 5);
    switch (model.exceptionOf(call)) {
      case 1:
        throw new IndexOutOfBoundsException();
      case 2:
        throw new IllegalArgumentException();
      case 3:
        throw new IllegalStateException();
      default:
        return Calls.changes(call[0]) ? model.change(call) : model.answer(call);
    }
  }

  private int number(int... numbers) {
    return (int) make(numbers);
  }

  int addChannel(int places) {
    return number(Calls.ADD_CHANNEL, places);
  }

  int addFiber() {
    return number(Calls.ADD_FIBER);
  }

  int addStep(int fiber, int kind, int one, int two) {
    return number(Calls.ADD_STEP, fiber, kind, one, two);
  }

  int pour(int channel, int value) {
    return number(Calls.POUR, channel, value);
  }

  int run(int turns) {
    return number(Calls.RUN, turns);
  }

  int time() {
    return number(Calls.TIME);
  }

  int channels() {
    return number(Calls.CHANNELS);
  }

  int fibers() {
    return number(Calls.FIBERS);
  }

  int done() {
    return number(Calls.DONE);
  }

  int idleTurns() {
    return number(Calls.IDLE_TURNS);
  }

  int next() {
    return number(Calls.NEXT);
  }

  boolean isStuck() {
    return make(Calls.IS_STUCK) == 1;
  }

  int held(int channel) {
    return number(Calls.HELD, channel);
  }

  int valueAt(int channel, int drop) {
    return number(Calls.VALUE_AT, channel, drop);
  }

  int sendersAt(int channel) {
    return number(Calls.SENDERS_AT, channel);
  }

  int takersAt(int channel) {
    return number(Calls.TAKERS_AT, channel);
  }

  int stateOf(int fiber) {
    return number(Calls.STATE_OF, fiber);
  }

  int placeOf(int fiber) {
    return number(Calls.PLACE_OF, fiber);
  }

  int sumOf(int fiber) {
    return number(Calls.SUM_OF, fiber);
  }

  int stepsDone(int fiber) {
    return number(Calls.STEPS_DONE, fiber);
  }

  int turnsOf(int fiber) {
    return number(Calls.TURNS_OF, fiber);
  }

  int placeInLine(int fiber) {
    return number(Calls.PLACE_IN_LINE, fiber);
  }

  int turnsUntilDone(int fiber) {
    return number(Calls.TURNS_UNTIL_DONE, fiber);
  }

  int turnsUntilStuck() {
    return number(Calls.TURNS_UNTIL_STUCK);
  }

  int sumIn(int fiber, int turns) {
    return number(Calls.SUM_IN, fiber, turns);
  }

  int placesWanted(int channel) {
    return number(Calls.PLACES_WANTED, channel);
  }

  double meanTurns() {
    return Double.longBitsToDouble(make(Calls.MEAN_TURNS));
  }

  long digest() {
    return make(Calls.DIGEST);
  }
}
