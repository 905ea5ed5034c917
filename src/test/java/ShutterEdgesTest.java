/** The edges of promises 17 to 24, sentence by sentence: shutters, shares, pairs, votes by turns, lanes by draws. */
public final class ShutterEdgesTest {
  private static final Checks CHECKS = new Checks();
  private static final int MIN = Integer.MIN_VALUE, MAX = Integer.MAX_VALUE;

  public static void main(String[] args) {
    refusals();
    judgedBytes();
    judgedLengths();
    fitsOfWhom();
    fitsOfAllAndOne();
    who();
    share();
    near();
    mates();
    byTurns();
    drawnArguments();
    drawnMoves();
    drawnAlone();
    CHECKS.end("ShutterEdgesTest");
  }

  private static void due(String call, long got, long want) {
    CHECKS.due(call, got, want);
  }

  private static void refusals() {
    GladSide x = Lanes.living(0, 1);
    x.joy(0, 0);
    x.body(0);
    x.keep(1, 0);
    Lanes.lay(x, 2, 0, 1);
    refused("an empty shelf", x, 0, -11);
    refused("a body", x, 1, -12);
    for (int sort = 1; sort < 5; sort++) {
      x.row(3, sort, 2);
      refused("a row of sort " + sort, x, 3, -12);
      x.row(3, sort, 0);
      refused("an empty row of sort " + sort, x, 3, -12);
    }
    for (int shelf : new int[] {MIN, -1, 6, MAX}) refused("shelf " + shelf, x, shelf, -1);
    for (int shelf = 0; shelf <= 2; shelf++) {
      for (int one : new int[] {MIN, -1, 2, MAX}) due("17 BAD ahead of all: one " + one, x.judge(shelf, one), -1);
      for (int oj : new int[] {MIN, -11, -10, -1, 1, 9, 11, 20, 100, MAX}) {
        for (int what = 0; what < 4; what++) due("18 BAD ahead of all: oj " + oj, x.fits(shelf, oj, what), -1);
      }
      for (int what : new int[] {MIN, -1, 4, MAX}) due("18 BAD ahead of all: what " + what, x.fits(shelf, 0, what), -1);
    }
  }

  private static void refused(String when, GladSide x, int shelf, int want) {
    due("17 " + when, x.judge(shelf, 0), want);
    for (int what = 0; what < 4; what++) due("18 " + when, x.fits(shelf, 0, what), want);
    due("19 " + when, x.who(shelf), want);
  }

  private static void judgedBytes() {
    GladSide glad = Lanes.living(0);
    Lanes.running(glad, 0, 1);
    GladSide other = Lanes.living(1);
    for (int seen = -128; seen <= 127; seen++) {
      Lanes.lay(glad, 0, seen);
      due("17 glad, seen as " + seen, glad.judge(0, 0), seen == 1 || seen == 9 ? -2 : 0);
    }
    for (int seen = -128; seen <= 127; seen++) {
      Lanes.lay(other, 5, seen);
      due("17 not glad, seen as " + seen, other.judge(5, 0), seen == 0 || seen == 9 ? -2 : 0);
    }
  }

  private static void judgedLengths() {
    for (int length = 0; length <= 60; length++) {
      GladSide x = Lanes.living(1);
      x.row(0, 0, length);
      due("17 all so, of " + length, x.judge(0, 0), -2);
      if (length == 0) continue;
      x.put(0, length - 1, 1);
      due("17 the first that is not so, of " + length, x.judge(0, 0), length <= 41 ? length - 1 : -2);
      due("19 of " + length, x.who(0), length <= 41 ? 0 : 1);
    }
    GladSide x = Lanes.living(0);
    x.joy(0, 39);
    x.row(0, 0, 41);
    due("17 glad behind 40 days", x.judge(0, 0), 40);
    x.put(0, 40, 1);
    due("17 seen behind 40 days", x.judge(0, 0), -2);
    x.put(0, 39, 1);
    due("17 not glad behind 39 days", x.judge(0, 0), 39);
    x.put(0, 7, 1);
    due("17 the first", x.judge(0, 0), 7);
  }

  private static void fitsOfWhom() {
    GladSide x = Lanes.living(1, 3, 0, 0, 0, 0, 0);
    for (int i = 0; i < 10; i++) x.joy(i == 9 ? 6 : 0, 50);
    x.mend(9, 2, 9);
    Lanes.lay(x, 0, 9, 9, 9, 1);
    due("18 the last one, the last joy: DUES", x.fits(0, 69, 0), 3);
    due("18 the last one, the last joy: the least", x.fits(0, 69, 1), 0);
    due("18 the last one, another's joy", x.fits(0, 60, 0), 0);
    due("18 another, the last one's joy", x.fits(0, 9, 0), 0);
    due("18 another, the last one's joy: NOT", x.fits(0, 9, 1), -2);
    due("18 one 7", x.fits(0, 70, 0), -1);
    due("18 DUE stays", x.of(9, 1), 50);
    GladSide six = Lanes.living(0, 2);
    for (int i = 0; i < 9; i++) six.joy(0, 0);
    due("18 joy 9 is not there", six.fits(0, 9, 0), -1);
    due("18 one 1, joy 8 are", six.fits(0, 18, 0), -11);
  }

  private static void fitsOfAllAndOne() {
    GladSide x = Lanes.living(0, 1);
    x.joy(0, 50);
    x.joy(1, 0);
    Lanes.lay(x, 0);
    due("18 an empty row: all DUES", x.fits(0, 0, 0), 100);
    due("18 an empty row: the least DUE", x.fits(0, 0, 1), 0);
    due("18 an empty row: all LATES", x.fits(0, 0, 2), 41);
    due("18 an empty row: the least LATE", x.fits(0, 0, 3), 0);
    Lanes.lay(x, 0, 5);
    due("18 no DUE", x.fits(0, 0, 0), 0);
    due("18 no DUE: NOT", x.fits(0, 0, 1), -2);
    due("18 no LATE", x.fits(0, 0, 2), 0);
    due("18 no LATE: NOT", x.fits(0, 0, 3), -2);
    x.mend(0, 11, 98);
    Lanes.lay(x, 0, 0, 0, 1);
    due("18 the last DUE alone", x.fits(0, 0, 0), 1);
    due("18 the last DUE", x.fits(0, 0, 1), 99);
    GladSide y = Lanes.living(1);
    y.joy(0, 0);
    y.mend(0, 9, 20);
    y.mend(0, 11, 39);
    Lanes.lay(y, 0, 0, 0, 1);
    due("18 the last LATE alone", y.fits(0, 0, 2), 1);
    due("18 the last LATE", y.fits(0, 0, 3), 40);
    y.mend(0, 11, 0);
    Lanes.lay(y, 0, 9, 0);
    due("18 LATE stays", y.of(0, 3), 9);
    int[] row = new int[41];
    row[40] = 1;
    y.mend(0, 9, 30);
    y.mend(0, 1, 30);
    Lanes.lay(y, 0, row);
    due("18 behind 40 days", y.fits(0, 0, 0), 1);
    due("18 behind 40 days: which", y.fits(0, 0, 1), 39);
    int[] longer = new int[60];
    longer[40] = 1;
    for (int i = 41; i < 60; i++) longer[i] = 5;
    Lanes.lay(y, 0, longer);
    due("18 41 at most count", y.fits(0, 0, 1), 39);
  }

  private static void who() {
    GladSide x = Lanes.living(0, 2, 4, 6, 8, 10, 0);
    Lanes.lay(x, 0);
    due("19 an empty row: all of them", x.who(0), 127);
    Lanes.lay(x, 0, 0, 9, 0);
    due("19 all of them", x.who(0), 127);
    x.joy(6, 0);
    due("19 but the last", x.who(0), 127);
    Lanes.lay(x, 0, 9, 0, 9);
    due("19 but the last one", x.who(0), 63);
    Lanes.lay(x, 0, 0, 1, 0);
    due("19 the last one", x.who(0), 64);
    Lanes.lay(x, 0, 10);
    due("19 other numbers are not so", x.who(0), 0);
  }

  private static void share() {
    GladSide x = Lanes.living(0, 1, 2, 3, 4, 5, 6);
    for (int one : new int[] {MIN, -1, 7, MAX}) due("20 BAD: one " + one, x.share(one, 1), -1);
    for (int v : new int[] {MIN, -1, 10000, MAX}) due("20 BAD: v " + v, x.share(0, v), -1);
    due("20 none HAD: 0", x.share(6, 9999), 0);
    for (int i = 0; i < 10; i++) {
      x.joy(i == 0 ? 0 : 6, 0);
      x.mend(i, 4, i == 0 ? 1 : 9);
    }
    x.mend(0, 6, 2);
    due("20 all of WORTH 1", x.share(0, 9999), 9999);
    due("20 none of WORTH 1", x.share(6, 9999), 0);
    for (int i = 1; i < 10; i++) x.mend(i, 6, 9);
    due("20 1 of 82, cut", x.share(0, 9999), 121);
    due("20 81 of 82, cut", x.share(6, 9999), 9877);
    due("20 1 of 82, below one", x.share(0, 81), 0);
    due("20 1 of 82, just one", x.share(0, 82), 1);
    due("20 nothing to share", x.share(6, 0), 0);
    x.mend(0, 4, 9);
    due("20 81 of 90", x.share(6, 9999), 8999);
    for (int i = 0; i < 10; i++) x.mend(i, 4, 0);
    due("20 HAD of no WORTH: 0", x.share(6, 9999), 0);
  }

  private static void near() {
    for (int house = 0; house < 12; house++) {
      for (int other = 0; other < 12; other++) {
        int want = (house + other) % 2 == 0 ? -2 : Math.abs(house / 2 - other / 2);
        due("21 the first in " + house + " to " + other, Lanes.living(house, other).near(0), want);
        due("21 the second in " + other + " to " + house, Lanes.living(house, other).near(1), want);
      }
    }
    GladSide x = Lanes.living(0, 0, 0, 0, 0, 0, 11);
    due("21 the last one alone is across", x.near(3), 5);
    due("21 from the last one", x.near(6), 5);
    for (int one : new int[] {MIN, -1, 7, MAX}) due("21 BAD: one " + one, x.near(one), -1);
    due("21 BAD ahead of NOT", Lanes.living(0).near(1), -1);
    due("21 NOT: alone", Lanes.living(0).near(0), -2);
    due("21 BAD: nobody", new GladSide().near(0), -1);
  }

  private static void mates() {
    for (int x : new int[] {MIN, -1, 6, MAX}) due("22 BAD: x " + x, Lanes.living(0, 1).mates(x), -1);
    for (int house = 0; house < 12; house++) {
      for (int other = 0; other < 12; other++) {
        GladSide two = Lanes.living(house, other);
        int apart = Math.abs(house / 2 - other / 2);
        for (int x = 0; x <= 5; x++) {
          int want = (house + other) % 2 == 1 && apart <= x ? 1 : 0;
          due("22 no more than " + x + " from " + house + " to " + other, two.mates(x), want);
        }
      }
    }
    for (int even = 0; even <= 7; even++) {
      for (int odd = 0; even + odd <= 7; odd++) {
        due("22 none in two: " + even + " and " + odd, Lanes.sides(even, odd).mates(5), Math.min(even, odd));
      }
    }
    due("22 six houses in a row", Lanes.living(1, 3, 5, 0, 2, 4, 6).mates(0), 3);
    due("22 each but one place off", Lanes.living(1, 3, 5, 4, 6, 8).mates(1), 2);
    due("22 each but two places off", Lanes.living(1, 3, 5, 4, 6, 8).mates(2), 3);
  }

  /** By as many on each side, whoever they are: one moved back for one moved over. */
  private static void byTurns() {
    for (int n : new int[] {MIN, -1, 0, 5, MAX}) due("23 VOID: n " + n, Lanes.living(0).byTurns(n, 0), -2000000000);
    for (int what : new int[] {MIN, -1, 2, MAX}) due("23 VOID: what " + what, Lanes.living(0).byTurns(1, what), -2000000000);
    for (int even = 0; even <= 7; even++) {
      for (int odd = 0; even + odd <= 7; odd++) {
        GladSide x = Lanes.sides(even, odd);
        int lead = even - odd;
        for (int n = 1; n <= 4; n++) {
          boolean moves = odd > 0 && (n == 1 || even > 0);
          int want = lead;
          if (n % 2 == 1 && odd > 0) want = lead + 2;
          if (n % 2 == 0 && odd == 0 && even > 0) want = lead - 2;
          String name = " n " + n + " by " + even + " and " + odd;
          due("23 how many more," + name, x.byTurns(n, 0), want);
          due("23 whom first," + name, x.byTurns(n, 1), moves ? even : 9);
        }
      }
    }
  }

  private static void drawnArguments() {
    GladSide x = Lanes.living(0, 0);
    for (int i = 0; i < 10; i++) x.joy(0, i < 9 ? 0 : 99);
    for (int nmk : new int[] {MIN, -10100, -1, 0, 1, 100, 9999, 10000, 10012, 10013, 10113, 10199, 14100, 19900, 310100, 304100,
      300113, 1000100, MAX}) {
      due("24 BAD: nmk " + nmk, x.drawn(1, nmk, -1), -1);
    }
    for (int joy : new int[] {MIN, -2, 10, MAX}) due("24 BAD: joy " + joy, x.drawn(1, 10100, joy), -1);
    due("24 least of all", x.drawn(1, 10100, -1), 0);
    due("24 most lanes and days", x.drawn(1, 304000, -1), 30 * 45);
    due("24 most lanes and days of a joy", x.drawn(1, 304000, 8), 30);
    due("24 a joy that is not due", x.drawn(1, 304000, 9), 0);
    due("24 two days", x.drawn(MIN, 10200, -1), 45);
    due("24 no joys", Lanes.living(0).drawn(MAX, 304012, -1), 0);
    due("24 no such joy", Lanes.living(0).drawn(MAX, 304012, 0), -1);
    for (int moves = 0; moves <= 12; moves++) {
      due("24 without PEOPLE nobody moves: " + moves, new GladSide().drawn(moves, 304000 + moves, -1), 0);
    }
  }

  /** The same lanes in deed, by every number of MOVES. */
  private static void drawnMoves() {
    for (int moves = 0; moves <= 12; moves++) {
      for (int seed : new int[] {MIN, -1, 0, MAX}) {
        int z = seed;
        int worth = 0;
        int often = 0;
        for (int lane = 0; lane < 3; lane++) {
          GladSide x = busy(7);
          for (int day = 0; day < 40; day++) {
            z = z * 1103515245 + 12345;
            if ((z >>> 24) % 12 < moves) x.moves((z >>> 8) % 7, (z >>> 16) % 12);
            x.day();
          }
          worth += x.lane(0, 6);
          often += x.lane(0, 2) & 1;
        }
        due("24 WORTH by MOVES " + moves + ", SEED " + seed, busy(7).drawn(seed, 34000 + moves, -1), worth);
        due("24 how often by MOVES " + moves + ", SEED " + seed, busy(7).drawn(seed, 34000 + moves, 0), often);
      }
    }
  }

  private static GladSide busy(int people) {
    GladSide x = new GladSide();
    for (int one = 0; one < people; one++) x.person(one);
    for (int joy = 0; joy < 10; joy++) {
      x.joy(joy % people, 4 * joy);
      x.mend(joy, 2, 9 - joy);
      x.mend(joy, 3, joy);
      x.mend(joy, 4, 1 + joy % 5);
    }
    x.mend(0, 9, 7);
    return x;
  }

  private static void drawnAlone() {
    for (int seed = 0; seed < 20; seed++) {
      int z = seed;
      int worth = 0;
      for (int lane = 0; lane < 2; lane++) {
        GladSide x = busy(1);
        for (int day = 0; day < 9; day++) {
          z = z * 1103515245 + 12345;
          x.moves(0, (z >>> 16) % 12);
          x.day();
        }
        worth += x.lane(0, 6);
      }
      due("24 alone, two lanes of SEED " + seed, busy(1).drawn(seed, 20912, -1), worth);
    }
  }
}
