/** Numbers at the bounds of what a call takes, and just outside. */
final class Bounds {
  private Bounds() {
  }

  /** The ones just outside on either side, and the least and the greatest int. */
  static int[] outside(int least, int most) {
    return new int[] {least - 1, most + 1, Integer.MIN_VALUE, Integer.MAX_VALUE};
  }

  /** What a call takes in a place that means nothing to it. */
  static int[] any() {
    return new int[] {Integer.MIN_VALUE, -1000, -1, 0, 1, 1000, Integer.MAX_VALUE};
  }
}
