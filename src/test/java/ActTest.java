/** Promises 33 to 42: bodies and their acts, shelves, counts. */
public final class ActTest {
  private static final Checks CHECKS = new Checks();

  public static void main(String[] args) {
    promise33();
    promise34();
    promise35();
    promise36();
    promise37();
    promise38();
    promise39();
    promise40();
    promise40Refusals();
    promise41();
    promise42();
    CHECKS.end("ActTest");
  }

  private static void due(String call, long got, long want) {
    CHECKS.due(call, got, want);
  }

  private static void promise33() {
    GladSide x = new GladSide();
    due("33 kind -1", x.body(-1), -1);
    due("33 kind 8", x.body(8), -1);
    for (int i = 0; i < 50; i++) due("33 body", x.body(i % 8), i);
    due("33 full", x.body(0), -3);
    due("33 bad ahead of full", x.body(8), -1);
    due("33 fifty", x.count(4), 50);
    x.keep(0, 49);
    due("33 the last one's kind", x.taken(0, 0), 1);
  }

  private static void promise34() {
    GladSide x = new GladSide();
    BodiesByJava[] bodies = new BodiesByJava[50];
    for (int i = 0; i < 50; i++) {
      int kind = (i * 5 + i / 8) % 8;
      x.body(kind);
      bodies[i] = BodiesByJava.ofKind(kind, i);
    }
    int[] xs = {0, 1, 5, -3, Integer.MAX_VALUE, Integer.MIN_VALUE, 1431655765};
    for (int i = 0; i < 50; i++) {
      for (int act = 0; act < 4; act++) {
        for (int v : xs) {
          String call = "34 act(" + i + ", " + act + ", " + v + ")";
          due(call, x.act(i, act, v), bodies[i].perform(act, v));
          due(call + " ran", x.count(5), bodies[i].ran.size());
          for (int k = 0; k < bodies[i].ran.size(); k++) due(call + " trace", x.trace(k), bodies[i].ran.get(k));
        }
      }
    }
    due("34 body -1", x.act(-1, 0, 5), 0);
    x.act(0, 0, 5);
    due("34 act 4", x.act(0, 4, 5), 0);
    due("34 no trace then", x.trace(0), -1);
    x.act(0, 0, 5);
    due("34 act -1", x.act(0, -1, 5), 0);
    due("34 none ran", x.count(5), 0);
    x.act(0, 0, 5);
    due("34 body 50", x.act(50, 0, 5), 0);
    due("34 none ran then", x.count(5), 0);
  }

  private static void promise35() {
    GladSide x = new GladSide();
    due("35 nothing ran", x.trace(0), -1);
    x.body(7);
    x.act(0, 3, 5);
    int[] ran = {2, 80, 10, 81, 70, 1, 11, 11};
    for (int i = 0; i < ran.length; i++) due("35 trace " + i, x.trace(i), ran[i]);
    due("35 behind the last", x.trace(ran.length), -1);
    due("35 i -1", x.trace(-1), -1);
    due("35 i 24", x.trace(24), -1);
    x.act(0, 2, 5);
    due("35 the latest act alone", x.trace(0), 11);
    due("35 one ran", x.trace(1), -1);
  }

  private static void promise36() {
    GladSide x = new GladSide();
    x.body(3);
    due("36 shelf -1", x.keep(-1, 0), -1);
    due("36 shelf 6", x.keep(6, 0), -1);
    due("36 body -2", x.keep(0, -2), -1);
    due("36 body 1", x.keep(0, 1), -1);
    due("36 nothing kept", x.taken(0, 0), -11);
    due("36 keep", x.keep(5, 0), 1);
    due("36 kept", x.taken(5, 3), 3);
    x.row(5, 0, 4);
    due("36 a row instead", x.taken(5, 3), -12);
    due("36 a body instead", x.keep(5, 0), 1);
    due("36 the row is gone", x.put(5, 0, 1), -12);
    due("36 nothing instead", x.keep(5, -1), 1);
    due("36 it holds nothing", x.put(5, 0, 1), -11);
    due("36 bad changes nothing", x.keep(5, 7), -1);
    due("36 nothing still", x.taken(5, 0), -11);
  }

  private static void promise37() {
    GladSide x = new GladSide();
    due("37 shelf -1", x.row(-1, 0, 1), -1);
    due("37 shelf 6", x.row(6, 0, 1), -1);
    due("37 sort -1", x.row(0, -1, 1), -1);
    due("37 sort 5", x.row(0, 5, 1), -1);
    due("37 n 61", x.row(0, 0, 61), -1);
    due("37 n -1", x.row(0, 0, -1), -14);
    due("37 n MIN", x.row(0, 4, Integer.MIN_VALUE), -14);
    due("37 bad ahead of -14", x.row(0, 5, -1), -1);
    due("37 shelf bad ahead of -14", x.row(6, 0, -1), -1);
    due("37 nothing there", x.put(0, 0, 1), -11);
    due("37 n 0", x.row(0, 3, 0), 1);
    due("37 no place", x.put(0, 0, 1), -13);
    due("37 n 60", x.row(0, 3, 60), 1);
    for (int i = 0; i < 60; i++) due("37 0 at first", x.element(0, i), 0);
    x.put(0, 59, 5);
    x.put(0, 0, 6);
    due("37 a new one", x.row(0, 3, 60), 1);
    due("37 0 again at first", x.element(0, 0), 0);
    due("37 0 again", x.element(0, 59), 0);
    x.put(0, 3, 8);
    due("37 -14 changes nothing", x.row(0, 3, -1), -14);
    due("37 it is there", x.element(0, 3), 8);
  }

  private static void promise38() {
    GladSide x = new GladSide();
    x.body(0);
    x.keep(1, 0);
    x.row(0, 2, 3);
    due("38 shelf -1", x.put(-1, 0, 1), -1);
    due("38 shelf 6", x.put(6, 0, 1), -1);
    due("38 nothing", x.put(2, 0, 1), -11);
    due("38 a body", x.put(1, 0, 1), -12);
    due("38 a body ahead of the place", x.put(1, -1, 1), -12);
    due("38 i -1", x.put(0, -1, 1), -13);
    due("38 i 3", x.put(0, 3, 1), -13);
    due("38 i MAX", x.put(0, Integer.MAX_VALUE, 1), -13);
    due("38 i MIN", x.put(0, Integer.MIN_VALUE, 1), -13);
    due("38 put", x.put(0, 2, 7), 1);
    due("38 there", x.element(0, 2), 7);
    due("38 not elsewhere", x.element(0, 1), 0);
    long[] values = {0, 1, -1, 127, 128, 255, 256, 32768, 65535, 65536, 1L << 31, (1L << 32) + 9, 1L << 32,
      Long.MAX_VALUE, Long.MIN_VALUE};
    for (int sort = 0; sort < 5; sort++) {
      x.row(3, sort, 1);
      for (long v : values) {
        x.put(3, 0, v);
        due("38 sort " + sort + " of " + v, x.element(3, 0), lowest(sort, v));
      }
    }
  }

  private static long lowest(int sort, long v) {
    int[] bits = {8, 16, 32, 64};
    if (sort == 4) return v == 0 ? 0 : 1;
    return v << 64 - bits[sort] >> 64 - bits[sort];
  }

  private static void promise39() {
    GladSide x = new GladSide();
    x.body(0);
    x.keep(1, 0);
    x.row(0, 3, 3);
    long none = Long.MIN_VALUE;
    due("39 shelf -1", x.element(-1, 0), none);
    due("39 shelf 6", x.element(6, 0), none);
    due("39 nothing", x.element(2, 0), none);
    due("39 a body", x.element(1, 0), none);
    due("39 i -1", x.element(0, -1), none);
    due("39 i 3", x.element(0, 3), none);
    due("39 i MIN", x.element(0, Integer.MIN_VALUE), none);
    x.put(0, 0, -11);
    due("39 an element of -11", x.element(0, 0), -11);
  }

  private static GladSide counted() {
    GladSide x = new GladSide();
    x.row(0, 3, 10);
    x.row(1, 3, 5);
    for (int i = 0; i < 10; i++) x.put(0, i, i);
    for (int i = 0; i < 5; i++) x.put(1, i, 100 + i);
    return x;
  }

  private static void elements(String call, GladSide x, int shelf, long... want) {
    for (int i = 0; i < want.length; i++) due(call + " element " + i, x.element(shelf, i), want[i]);
  }

  private static void promise40() {
    GladSide x = counted();
    due("40 up", x.shift(0, 0, 0, 2, 8), 8);
    elements("40 up", x, 0, 0, 1, 0, 1, 2, 3, 4, 5, 6, 7);
    x = counted();
    due("40 down", x.shift(0, 3, 0, 1, 7), 7);
    elements("40 down", x, 0, 0, 3, 4, 5, 6, 7, 8, 9, 8, 9);
    x = counted();
    due("40 to another", x.shift(0, 6, 1, 1, 4), 4);
    elements("40 to another", x, 1, 100, 6, 7, 8, 9);
    elements("40 from there", x, 0, 0, 1, 2, 3, 4, 5, 6, 7, 8, 9);
    due("40 none", x.shift(0, 10, 1, 5, 0), 0);
    due("40 all", x.shift(1, 0, 0, 5, 5), 5);
    elements("40 all", x, 0, 0, 1, 2, 3, 4, 100, 6, 7, 8, 9);
  }

  private static void promise40Refusals() {
    GladSide x = counted();
    x.body(0);
    x.keep(2, 0);
    x.row(3, 2, 5);
    due("40 shelf -1", x.shift(-1, 0, 0, 0, 1), -1);
    due("40 shelf 6", x.shift(6, 0, 0, 0, 1), -1);
    due("40 other -1", x.shift(4, 0, -1, 0, 1), -1);
    due("40 other 6", x.shift(0, 0, 6, 0, 1), -1);
    due("40 nothing", x.shift(4, 0, 0, 0, 1), -11);
    due("40 nothing there", x.shift(0, 0, 4, 0, 1), -11);
    due("40 nothing ahead of a body", x.shift(2, 0, 4, 0, 1), -11);
    due("40 a body", x.shift(2, 0, 0, 0, 1), -12);
    due("40 a body there", x.shift(0, 0, 2, 0, 1), -12);
    due("40 two bodies", x.shift(2, 0, 2, 0, 0), -12);
    due("40 unlike", x.shift(0, 0, 3, 0, 1), -12);
    due("40 unlike ahead of the place", x.shift(0, -1, 3, 0, 1), -12);
    due("40 n -1", x.shift(0, 1, 1, 1, -1), -13);
    due("40 n MIN", x.shift(0, 1, 1, 1, Integer.MIN_VALUE), -13);
    due("40 n MAX", x.shift(0, 1, 1, 1, Integer.MAX_VALUE), -13);
    due("40 i -1", x.shift(0, -1, 1, 0, 1), -13);
    due("40 j -1", x.shift(0, 0, 1, -1, 1), -13);
    due("40 i 11", x.shift(0, 11, 1, 0, 0), -13);
    due("40 j 6", x.shift(0, 0, 1, 6, 0), -13);
    due("40 past the end", x.shift(0, 8, 1, 0, 3), -13);
    due("40 past the other's end", x.shift(0, 0, 1, 3, 3), -13);
    due("40 i MAX", x.shift(0, Integer.MAX_VALUE, 1, 0, 1), -13);
    due("40 j MAX", x.shift(0, 0, 1, Integer.MAX_VALUE, 1), -13);
    elements("40 nothing came", x, 1, 100, 101, 102, 103, 104);
  }

  private static void promise41() {
    GladSide x = new GladSide();
    int[][] under = {{0}, {1, 0}, {2, 0}, {3, 2, 0}, {4, 1, 0}, {5, 3, 2, 0}, {6, 0}, {7, 6, 0}};
    for (int kind = 0; kind < 8; kind++) {
      x.body(kind);
      x.keep(0, kind);
      for (int k = 0; k < 8; k++) {
        boolean is = false;
        for (int u : under[kind]) is |= u == k;
        due("41 kind " + kind + " for " + k, x.taken(0, k), is ? kind : -12);
      }
    }
    due("41 k -1", x.taken(0, -1), -1);
    due("41 k 8", x.taken(0, 8), -1);
    due("41 shelf -1", x.taken(-1, 0), -1);
    due("41 shelf 6", x.taken(6, 0), -1);
    due("41 bad ahead of nothing", x.taken(1, 8), -1);
    due("41 nothing", x.taken(1, 0), -11);
    x.row(1, 2, 3);
    due("41 a row", x.taken(1, 0), -12);
    x.keep(1, -1);
    due("41 nothing again", x.taken(1, 0), -11);
  }

  private static void promise42() {
    GladSide x = new GladSide();
    due("42 what -1", x.count(-1), -1);
    due("42 what 6", x.count(6), -1);
    x.person(0);
    x.person(0);
    x.joy(0, 0);
    x.joy(0, 0);
    x.joy(0, 0);
    for (int i = 0; i < 4; i++) x.feed('1');
    for (int i = 0; i < 5; i++) x.mend(0, 9, 20 + i);
    for (int i = 0; i < 6; i++) x.body(5);
    x.act(0, 3, 1);
    int[] want = {2, 3, 4, 5, 6, 10};
    for (int what = 0; what < 6; what++) due("42 what " + what, x.count(what), want[what]);
  }
}
