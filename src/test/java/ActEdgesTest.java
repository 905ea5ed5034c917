/** The edges of promises 33 to 42, sentence by sentence: bodies, acts, shelves, rows, counts. */
public final class ActEdgesTest {
  private static final Checks CHECKS = new Checks();
  private static final int MIN = Integer.MIN_VALUE, MAX = Integer.MAX_VALUE;
  private static final long NONE = Long.MIN_VALUE;

  public static void main(String[] args) {
    bodies();
    acts();
    numbersThatWrap();
    trace();
    keep();
    rows();
    sixShelves();
    elementsOfSorts();
    putRefused();
    shiftRuns();
    shiftOfSorts();
    shiftRefused();
    taken();
    counts();
    CHECKS.end("ActEdgesTest");
  }

  private static void due(String call, long got, long want) {
    CHECKS.due(call, got, want);
  }

  private static void bodies() {
    GladSide x = new GladSide();
    for (int kind : new int[] {MIN, -1, 8, MAX}) due("33 BAD: kind " + kind, x.body(kind), -1);
    due("33 BAD: none is kept", x.count(4), 0);
    for (int i = 0; i < 50; i++) due("33 its number", x.body(7 - i % 8), i);
    due("33 FULL", x.body(7), -3);
    due("33 FULL: none came", x.count(4), 50);
    due("33 BAD ahead of FULL", x.body(8), -1);
    for (int i = 42; i < 50; i++) {
      x.keep(0, i);
      due("33 KIND of " + i, x.taken(0, 0), 7 - i % 8);
    }
  }

  private static void acts() {
    GladSide x = new GladSide();
    due("34 no BODY at all", x.act(0, 0, 7), 0);
    for (int i = 0; i < 50; i++) x.body(0);
    due("34 the first", x.act(0, 0, 7), 7);
    due("34 the last", x.act(49, 0, 7), 56);
    int[][] not = {{-1, 0}, {50, 0}, {MIN, 0}, {MAX, 0}, {0, -1}, {0, 4}, {49, MIN}, {49, MAX}, {50, 4}};
    for (int[] call : not) {
      String name = "34 act(" + call[0] + ", " + call[1] + ")";
      due(name + " ahead", x.act(3, 3, 7), (7 + 3) * 2 - (1 ^ 3));
      due(name + " ahead: ran", x.count(5), 4);
      due(name, x.act(call[0], call[1], 7), 0);
      due(name + ": none ran", x.count(5), 0);
      due(name + ": no TRACE then", x.trace(0), -1);
    }
  }

  private static void numbersThatWrap() {
    GladSide x = new GladSide();
    for (int i = 0; i < 50; i++) x.body(i == 49 ? 3 : i == 48 ? 6 : i == 47 ? 1 : 0);
    due("34 x + n wraps", x.act(46, 0, MAX), MIN + 45);
    due("34 times 2 wraps", x.act(0, 1, 1 << 30), MIN);
    due("34 times 2 of the least", x.act(0, 1, MIN), 0);
    due("34 minus of the least wraps", x.act(49, 1, (1 << 30) - 50), MIN);
    due("34 times 3 wraps", x.act(49, 2, MAX), (MAX ^ 49) * 3);
    due("34 super times 2 wraps", x.act(48, 0, MAX), (MAX + 48) * 2);
    due("34 super + 3 wraps", x.act(47, 0, MAX - 48), MIN + 1);
    due("34 tells wraps", x.act(0, 3, MIN), -1);
  }

  private static void trace() {
    GladSide x = new GladSide();
    for (int i : new int[] {MIN, -1, 0, 1, 23, 24, MAX}) due("35 BAD: nothing ran, " + i, x.trace(i), -1);
    x.body(5);
    due("35 x", x.act(0, 3, 0), 1 + -((1 + 0) * 2) - (3 - 2));
    int[] ran = {61, 2, 41, 30, 10, 1, 60, 40, 11, 1};
    for (int i = 0; i < ran.length; i++) due("35 as they began, " + i, x.trace(i), ran[i]);
    for (int i : new int[] {MIN, -1, 10, 11, 23, 24, MAX}) due("35 BAD: " + i, x.trace(i), -1);
    due("42 that ran", x.count(5), 10);
    x.act(0, 0, 0);
    due("35 the latest alone", x.trace(0), 1);
    due("35 BAD: of the one before", x.trace(1), -1);
    x.body(9);
    x.keep(0, 0);
    due("35 other calls leave it", x.trace(0), 1);
  }

  private static void keep() {
    GladSide x = new GladSide();
    due("36 BAD: no BODY yet", x.keep(0, 0), -1);
    for (int i = 0; i < 50; i++) x.body(4);
    for (int shelf : new int[] {MIN, -1, 6, MAX}) {
      due("36 BAD: shelf " + shelf, x.keep(shelf, 0), -1);
      due("36 BAD: nothing on shelf " + shelf, x.keep(shelf, -1), -1);
    }
    for (int body : new int[] {MIN, -2, 50, MAX}) due("36 BAD: body " + body, x.keep(0, body), -1);
    due("36 BAD changes nothing", x.taken(0, 0), -11);
    due("36 nothing instead of nothing", x.keep(0, -1), 1);
    due("36 it holds nothing", x.taken(0, 0), -11);
    for (int shelf = 0; shelf < 6; shelf++) due("36 the last BODY on " + shelf, x.keep(shelf, 49), 1);
    x.keep(3, -1);
    for (int shelf = 0; shelf < 6; shelf++) due("36 what " + shelf + " holds", x.taken(shelf, 1), shelf == 3 ? -11 : 4);
    x.row(0, 2, 5);
    x.put(0, 1, 8);
    due("36 BAD leaves the ROW", x.keep(0, 50), -1);
    due("36 BAD: the ROW is there", x.element(0, 1), 8);
    due("36 nothing instead of a ROW", x.keep(0, -1), 1);
    due("36 the ROW is gone", x.element(0, 1), NONE);
    x.row(0, 2, 5);
    due("36 a new ROW is 0", x.element(0, 1), 0);
  }

  private static void rows() {
    GladSide x = new GladSide();
    for (int shelf : new int[] {MIN, -1, 6, MAX}) {
      due("37 BAD: shelf " + shelf, x.row(shelf, 0, 1), -1);
      due("37 BAD ahead of -14: shelf " + shelf, x.row(shelf, 0, -1), -1);
    }
    for (int sort : new int[] {MIN, -1, 5, MAX}) {
      due("37 BAD: sort " + sort, x.row(0, sort, 1), -1);
      due("37 BAD ahead of -14: sort " + sort, x.row(0, sort, -1), -1);
    }
    for (int n : new int[] {61, 62, MAX}) due("37 BAD: n " + n, x.row(0, 0, n), -1);
    for (int n : new int[] {-1, -60, MIN}) due("37 -14: n " + n, x.row(0, 4, n), -14);
    due("37 nothing came", x.taken(0, 0), -11);
    for (int sort = 0; sort < 5; sort++) {
      for (int n : new int[] {0, 1, 2, 59, 60}) {
        due("37 sort " + sort + " of " + n, x.row(5, sort, n), 1);
        due("37 the first of " + n, x.element(5, 0), n > 0 ? 0 : NONE);
        due("37 the last of " + n, x.element(5, n - 1), n > 0 ? 0 : NONE);
        due("37 none behind " + n, x.element(5, n), NONE);
      }
    }
    x.put(5, 59, 1);
    due("37 BAD leaves the ROW: n", x.row(5, 3, 61), -1);
    due("37 BAD leaves the ROW: sort", x.row(5, 5, 3), -1);
    due("37 -14 leaves the ROW", x.row(5, 3, -1), -14);
    due("37 it is there", x.element(5, 59), 1);
    due("37 a shorter one", x.row(5, 3, 59), 1);
    due("37 has no place 59", x.put(5, 59, 1), -13);
    due("37 a longer one", x.row(5, 3, 60), 1);
    due("37 0 at first", x.element(5, 59), 0);
  }

  private static void sixShelves() {
    GladSide x = new GladSide();
    for (int shelf = 0; shelf < 6; shelf++) {
      x.row(shelf, 3, 60);
      x.put(shelf, 0, 100 + shelf);
      x.put(shelf, 59, 200 + shelf);
    }
    for (int shelf = 0; shelf < 6; shelf++) {
      due("39 the first of shelf " + shelf, x.element(shelf, 0), 100 + shelf);
      due("39 the last of shelf " + shelf, x.element(shelf, 59), 200 + shelf);
    }
    for (int shelf = 0; shelf < 6; shelf++) {
      due("37 anew on " + shelf, x.row(shelf, 3, 60), 1);
      for (int other = 0; other < 6; other++) {
        due("37 the first of " + other + " with " + shelf + " anew", x.element(other, 0), other <= shelf ? 0 : 100 + other);
        due("37 the last of " + other + " with " + shelf + " anew", x.element(other, 59), other <= shelf ? 0 : 200 + other);
      }
    }
  }

  private static void elementsOfSorts() {
    long[] values = {0, 1, -1, 2, 127, 128, -128, -129, 255, 256, 32767, 32768, -32768, -32769, 65536, MAX, MAX + 1L, MIN, MIN - 1L,
      1L << 32, Long.MAX_VALUE, Long.MIN_VALUE + 1};
    GladSide x = new GladSide();
    for (int sort = 0; sort < 5; sort++) {
      x.row(sort, sort, 60);
      for (long v : values) {
        long want = sort == 0 ? (byte) v : sort == 1 ? (short) v : sort == 2 ? (int) v : sort == 3 ? v : v != 0 ? 1 : 0;
        due("38 into sort " + sort, x.put(sort, 59, v), 1);
        due("39 of sort " + sort + ": " + v, x.element(sort, 59), want);
      }
      due("38 no other element of sort " + sort, x.element(sort, 58), 0);
    }
  }

  private static void putRefused() {
    GladSide x = new GladSide();
    x.body(0);
    x.keep(1, 0);
    for (int shelf : new int[] {MIN, -1, 6, MAX}) {
      due("38 BAD: shelf " + shelf, x.put(shelf, 0, 1), -1);
      due("39 BAD: shelf " + shelf, x.element(shelf, 0), NONE);
    }
    for (int i : new int[] {MIN, -1, 0, 60, MAX}) {
      due("38 -11 ahead of -13: " + i, x.put(0, i, 1), -11);
      due("39 -11: " + i, x.element(0, i), NONE);
      due("38 -12 ahead of -13: " + i, x.put(1, i, 1), -12);
      due("39 -12: " + i, x.element(1, i), NONE);
    }
    for (int n : new int[] {0, 1, 59, 60}) {
      x.row(2, 3, n);
      for (int i : new int[] {MIN, -1, n, n + 1, 60, MAX}) {
        due("38 -13: " + i + " of " + n, x.put(2, i, 1), -13);
        due("39 -13: " + i + " of " + n, x.element(2, i), NONE);
      }
      if (n > 0) due("38 the last of " + n, x.put(2, n - 1, 7), 1);
    }
  }

  private static GladSide counted(int sort) {
    GladSide x = new GladSide();
    x.row(4, sort, 60);
    for (int i = 0; i < 60; i++) x.put(4, i, i + 1);
    x.row(5, sort, 60);
    return x;
  }

  /** All elements of shelf 4 behind a shift within it, as they all were before. */
  private static void shiftWithin(int i, int j, int n) {
    GladSide x = counted(3);
    String name = "40 from " + i + " to " + j + ", " + n + " of them";
    due(name, x.shift(4, i, 4, j, n), n);
    for (int k = 0; k < 60; k++) {
      due(name + ": element " + k, x.element(4, k), k >= j && k < j + n ? i + k - j + 1 : k + 1);
    }
  }

  private static void shiftRuns() {
    shiftWithin(0, 1, 59);
    shiftWithin(1, 0, 59);
    shiftWithin(0, 0, 60);
    shiftWithin(0, 30, 30);
    shiftWithin(30, 0, 30);
    shiftWithin(10, 13, 20);
    shiftWithin(13, 10, 20);
    shiftWithin(59, 0, 1);
    shiftWithin(0, 59, 1);
    shiftWithin(60, 60, 0);
    shiftWithin(0, 60, 0);
    shiftWithin(60, 0, 0);
    GladSide x = counted(3);
    due("40 all to another one", x.shift(4, 0, 5, 0, 60), 60);
    for (int k = 0; k < 60; k++) due("40 all to another one: " + k, x.element(5, k), k + 1);
    due("40 it stays where it was", x.element(4, 59), 60);
    x.row(0, 3, 0);
    due("40 none of a ROW of none", x.shift(0, 0, 4, 60, 0), 0);
    due("40 none to a ROW of none", x.shift(4, 60, 0, 0, 0), 0);
    due("40 one of a ROW of none", x.shift(0, 0, 4, 0, 1), -13);
    due("40 one to a ROW of none", x.shift(4, 0, 0, 0, 1), -13);
  }

  private static void shiftOfSorts() {
    for (int sort = 0; sort < 5; sort++) {
      GladSide x = counted(sort);
      due("40 of sort " + sort, x.shift(4, 9, 5, 8, 51), 51);
      due("40 of sort " + sort + ": the last", x.element(5, 58), sort == 4 ? 1 : 60);
      due("40 of sort " + sort + ": behind it", x.element(5, 59), 0);
      due("40 of sort " + sort + ": ahead", x.element(5, 7), 0);
      for (int other = 0; other < 5; other++) {
        x.row(5, other, 60);
        due("40 of sort " + sort + " to " + other, x.shift(4, 0, 5, 0, 1), sort == other ? 1 : -12);
      }
    }
  }

  private static void shiftRefused() {
    GladSide x = counted(3);
    x.body(0);
    x.keep(1, 0);
    x.row(2, 2, 60);
    int[] shelves = {MIN, -1, 6, MAX};
    for (int shelf : shelves) {
      for (int other : new int[] {0, 1, 2, 4, shelf}) {
        due("40 BAD ahead of all: " + shelf + " to " + other, x.shift(shelf, -1, other, -1, -1), -1);
        due("40 BAD ahead of all: " + other + " to " + shelf, x.shift(other, -1, shelf, -1, -1), -1);
      }
    }
    for (int other : new int[] {0, 1, 2, 3, 4}) {
      due("40 -11 ahead of -12, -13: to " + other, x.shift(0, -1, other, -1, -1), -11);
      due("40 -11 ahead of -12, -13: from " + other, x.shift(other, -1, 0, -1, -1), -11);
    }
    for (int other : new int[] {1, 2, 4}) {
      due("40 -12 ahead of -13: a body to " + other, x.shift(1, -1, other, -1, -1), -12);
      due("40 -12 ahead of -13: to a body from " + other, x.shift(other, -1, 1, -1, -1), -12);
    }
    due("40 -12 ahead of -13: unlike", x.shift(2, -1, 4, -1, -1), -12);
    due("40 -12: unlike, none of them", x.shift(2, 0, 4, 0, 0), -12);
    int[][] not = {{0, 0, -1}, {0, 0, MIN}, {0, 0, 61}, {0, 0, MAX}, {-1, 0, 1}, {0, -1, 1}, {-1, 0, 0}, {0, -1, 0}, {61, 0, 0},
      {0, 61, 0}, {60, 0, 1}, {0, 60, 1}, {1, 0, 60}, {0, 1, 60}, {MIN, 0, 1}, {0, MIN, 1}, {MAX, 0, 1}, {0, MAX, 1}, {MIN, MIN, MIN},
      {MAX, MAX, MAX}, {1, 1, MAX}, {MAX, 0, -1}, {60, 60, MIN}};
    for (int[] call : not) {
      due("40 -13: " + call[0] + " to " + call[1] + ", " + call[2], x.shift(4, call[0], 5, call[1], call[2]), -13);
      due("40 -13: within, " + call[0] + " to " + call[1] + ", " + call[2], x.shift(4, call[0], 4, call[1], call[2]), -13);
    }
    for (int k = 0; k < 60; k++) due("40 nothing came", x.element(5, k), 0);
    for (int k = 0; k < 60; k++) due("40 nothing went", x.element(4, k), k + 1);
  }

  private static void taken() {
    int[] above = {-1, 0, 0, 2, 1, 3, 0, 6};
    GladSide x = new GladSide();
    for (int kind = 0; kind < 8; kind++) x.body(kind);
    for (int kind = 0; kind < 8; kind++) {
      x.keep(2, kind);
      for (int k = 0; k < 8; k++) {
        int up = kind;
        while (up >= 0 && up != k) up = above[up];
        due("41 a BODY of KIND " + kind + " for " + k, x.taken(2, k), up == k ? kind : -12);
      }
    }
    for (int k : new int[] {MIN, -1, 8, MAX}) {
      due("41 BAD: KIND " + k, x.taken(2, k), -1);
      due("41 BAD ahead of -11: KIND " + k, x.taken(1, k), -1);
    }
    for (int shelf : new int[] {MIN, -1, 6, MAX}) due("41 BAD: shelf " + shelf, x.taken(shelf, 0), -1);
    for (int k = 0; k < 8; k++) due("41 -11 for " + k, x.taken(1, k), -11);
    for (int sort = 0; sort < 5; sort++) {
      x.row(1, sort, sort);
      for (int k = 0; k < 8; k++) due("41 -12: a ROW of " + sort + " for " + k, x.taken(1, k), -12);
    }
  }

  private static void counts() {
    GladSide x = new GladSide();
    for (int what : new int[] {MIN, -1, 6, MAX}) due("42 BAD: what " + what, x.count(what), -1);
    for (int i = 0; i < 9; i++) x.person(1);
    for (int i = 0; i < 12; i++) x.joy(0, 0);
    for (int i = 0; i < 122; i++) x.feed(1);
    for (int i = 0; i < 42; i++) x.mend(0, 11, i + 1);
    for (int i = 0; i < 52; i++) x.body(5);
    x.act(49, 3, 0);
    int[] most = {7, 10, 120, 40, 50, 10};
    for (int what = 0; what < 6; what++) due("42 the most of " + what, x.count(what), most[what]);
    x.undo();
    x.law();
    x.act(50, 3, 0);
    int[] then = {7, 10, 0, 39, 50, 0};
    for (int what = 0; what < 6; what++) due("42 then of " + what, x.count(what), then[what]);
  }
}
