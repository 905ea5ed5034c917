/** Numbers drawn by a fixed rule, so that every run of a test is the same. */
final class Draws {
  private long state;

  Draws(long seed) {
    state = seed * 0x9E3779B97F4A7C15L + 1;
  }

  int below(int bound) {
    state = state * 6364136223846793005L + 1442695040888963407L;
    return (int) ((state >>> 33) % bound);
  }

  int any() {
    return below(1 << 16) << 16 | below(1 << 16);
  }

  boolean oneIn(int n) {
    return below(n) == 0;
  }
}
