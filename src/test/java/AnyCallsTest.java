/** Any calls with any arguments: none throws, answers stay within their bounds, and what is refused changes nothing. */
public final class AnyCallsTest {
  private static final Checks CHECKS = new Checks();
  private static final int[] EDGES = {-2, -1, 0, 1, 2, 5, 6, 7, 8, 9, 10, 11, 12, 40, 41, 60, 61, 99, 100, 119, 120, 199, 200,
    255, 256, 9999, 10000, Integer.MAX_VALUE, Integer.MAX_VALUE - 1, Integer.MIN_VALUE, Integer.MIN_VALUE + 1, -10, -100};
  private static final int CALLS = 42;

  public static void main(String[] args) {
    for (int seed = 0; seed < 400; seed++) oneRun(new Draws(seed), seed);
    CHECKS.end("AnyCallsTest");
  }

  private static void oneRun(Draws draws, int seed) {
    GladSide x = new GladSide();
    for (int i = 0; i < 512; i++) {
      int which = 2 + draws.below(CALLS - 1);
      int[] a = {argument(draws), argument(draws), argument(draws), argument(draws), argument(draws)};
      String call = "call " + which + " with " + java.util.Arrays.toString(a) + " in run " + seed;
      long before = refusable(which) ? state(x) : 0;
      long got;
      try {
        got = answer(x, which, a);
      } catch (RuntimeException | StackOverflowError thrown) {
        CHECKS.holds(call + " threw " + thrown, false);
        return;
      }
      boolean refused = got <= -1 && got >= -14 || got == GladSide.VOID || got == Long.MIN_VALUE;
      if (refused && refusable(which)) CHECKS.due("the state behind a refused " + call, state(x), before);
    }
  }

  /** An act's answer may be any number, and trace() belongs to the latest act. */
  private static boolean refusable(int which) {
    return which != 34 && which != 8;
  }

  private static int argument(Draws draws) {
    int sort = draws.below(12);
    if (sort == 0) return draws.any();
    if (sort < 3) return EDGES[draws.below(EDGES.length)];
    return draws.below(sort < 6 ? 50 : sort < 8 ? 12 : 6);
  }

  private static long answer(GladSide x, int which, int[] a) {
    switch (which) {
      case 2: return x.person(a[0]);
      case 3: return x.joy(a[0], a[1]);
      case 4: return x.joys(a[0], a[1], a[2]);
      case 5: return x.mend(a[0], a[1], a[2]);
      case 6: return x.of(a[0], a[1]);
      case 7: return x.feed(a[1] % 2 == 0 ? a[0] : "wglok y(!-)+*/%<=>&|?;129".charAt(Math.floorMod(a[0], 25)));
      case 8: return a[0] % 3 == 0 ? x.law() : 1;
      case 9: return x.smell(a[0], a[1]);
      case 10: return x.smelt(a[0]);
      case 11: return x.shut(a[0]);
      case 12: return x.lane(a[0], a[1]);
      case 13: return x.when(a[0], a[1]);
      case 14: return x.move(a[0], a[1]);
      case 15: return x.over(a[0]);
      case 16: return x.date(a[0], a[1], a[2]);
      case 17: return x.judge(a[0], a[1]);
      case 18: return x.fits(a[0], a[1], a[2]);
      case 19: return x.who(a[0]);
      case 20: return x.share(a[0], a[1]);
      case 21: return x.near(a[0]);
      default: return laterAnswer(x, which, a);
    }
  }

  private static long laterAnswer(GladSide x, int which, int[] a) {
    switch (which) {
      case 22: return x.mates(a[0]);
      case 23: return x.byTurns(a[0], a[1]);
      case 24: return x.drawn(a[0], a[4] % 2 == 0 ? a[1] : 10000 * a[1] + 100 * a[2] + a[3], a[4] - 1);
      case 25: return x.moves(a[0], a[1]);
      case 26: return x.day();
      case 27: return x.inspect();
      case 28: return x.led(a[0]);
      case 29: return x.image();
      case 30: return x.back();
      case 31: return x.undo();
      case 32: return x.redo();
      case 33: return x.body(a[0]);
      case 34: return x.act(a[0], a[1], a[2]);
      case 35: return x.trace(a[0]);
      case 36: return x.keep(a[0], a[1]);
      case 37: return x.row(a[0], a[1], a[2]);
      case 38: return x.put(a[0], a[1], (long) a[2] << (a[3] & 31));
      case 39: return x.element(a[0], a[1]);
      case 40: return x.shift(a[0], a[1], a[2], a[3], a[4]);
      case 41: return x.taken(a[0], a[1]);
      default: return x.count(a[0]);
    }
  }

  /** All that can be asked without changing anything, as one number. */
  private static long state(GladSide x) {
    long sum = 17;
    for (int what = 0; what < 6; what++) sum = sum * 31 + x.count(what);
    for (int what = 0; what < 6; what++) sum = sum * 31 + x.led(what);
    for (int number = 0; number < 10; number++) {
      for (int what = 0; what <= 12; what++) sum = sum * 31 + x.of(number, what);
    }
    for (int shelf = 0; shelf < 6; shelf++) {
      sum = sum * 31 + x.taken(shelf, 0);
      for (int i = 0; i < 60; i++) sum = sum * 31 + x.element(shelf, i);
    }
    for (int i = 0; i < 24; i++) sum = sum * 31 + x.trace(i);
    for (int joy = 0; joy < 10; joy++) {
      for (int house = 0; house < 12; house += 5) sum = sum * 31 + x.smell(joy, house);
    }
    return sum;
  }
}
