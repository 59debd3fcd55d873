/** The checksum of promise 29, computed from the other answers as the document tells it. */
final class Digests {
  private long d = 2213;

  private Digests() {
  }

  static long of(WaterFibers clock) {
    Digests digest = new Digests();
    digest.add(clock.time(), clock.channels(), clock.fibers(), clock.done(), clock.idleTurns(),
        clock.next(), clock.isStuck() ? 1 : 0, clock.turnsUntilStuck());
    for (int i = 0; i < clock.channels(); i++) {
      digest.add(clock.held(i));
      for (int drop = 0; drop < clock.held(i); drop++) {
        digest.add(clock.valueAt(i, drop));
      }
      digest.add(clock.sendersAt(i), clock.takersAt(i), clock.placesWanted(i));
    }
    for (int i = 0; i < clock.fibers(); i++) {
      digest.add(clock.stateOf(i), clock.placeOf(i), clock.sumOf(i), clock.stepsDone(i),
          clock.turnsOf(i), clock.placeInLine(i), clock.turnsUntilDone(i));
    }
    return digest.d;
  }

  private void add(int... numbers) {
    for (int number : numbers) {
      d = d * 31 + number;
    }
  }
}
