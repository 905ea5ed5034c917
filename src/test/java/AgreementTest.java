/** Promises 10 to 27 by drawn lanes: what is answered in thought agrees with lanes that live it through in deed. */
public final class AgreementTest {
  private static final Checks CHECKS = new Checks();

  public static void main(String[] args) {
    for (int seed = 0; seed < 250; seed++) {
      Draws draws = new Draws(seed);
      PlainLane lane = new PlainLane(draws);
      days(seed, lane);
      smells(seed, lane);
      moves(seed, lane, draws);
      dates(seed, lane, draws);
      shutters(seed, lane, draws);
      neighbours(seed, lane);
      turns(seed, lane);
      draws(seed, lane, draws);
    }
    CHECKS.end("AgreementTest");
  }

  private static void due(String call, int seed, long got, long want) {
    CHECKS.due(call + " of lane " + seed, got, want);
  }

  private static int worth(GladSide x, int joys) {
    int sum = 0;
    for (int joy = 0; joy < joys; joy++) {
      if (isHad(x, joy)) sum += x.of(joy, 4);
    }
    return sum;
  }

  private static boolean isHad(GladSide x, int joy) {
    return x.of(joy, 7) == 0 && x.of(joy, 6) >= x.of(joy, 2);
  }

  private static boolean runs(GladSide x, int joy) {
    return x.of(joy, 7) == 0 && x.of(joy, 6) > 0 && x.of(joy, 6) < x.of(joy, 2);
  }

  private static int side(GladSide x, int one) {
    return x.of(one, 0) % 2;
  }

  private static int place(GladSide x, int one) {
    return x.of(one, 0) / 2;
  }

  /** One day by the document's words, on the numbers that of() tells. */
  private static void liveDay(GladSide x, PlainLane lane, int[] turned) {
    int day = x.of(0, 11);
    if (day > 0 && day % x.of(0, 9) == 0) {
      int more = 0;
      for (int one = 0; one < lane.people; one++) more += side(x, one) == 1 ? 1 : -1;
      int chosen = more > 0 ? 1 : more < 0 ? 0 : x.of(0, 8);
      if (chosen != x.of(0, 8)) turned[0]++;
      x.mend(0, 8, chosen);
    }
    for (int joy = 0; joy < lane.joys; joy++) {
      boolean glad = side(x, x.of(joy, 12)) == x.of(0, 8);
      boolean waits = x.of(joy, 7) == 0 && x.of(joy, 6) == 0 && day >= x.of(joy, 1);
      if (glad && (waits || runs(x, joy))) x.mend(joy, 6, x.of(joy, 6) + 1);
      else if (waits && day >= x.of(joy, 1) + x.of(joy, 3)) x.mend(joy, 7, 1);
    }
    if (day < 199) x.mend(0, 11, day + 1);
  }

  private static void days(int seed, PlainLane lane) {
    GladSide thought = lane.built();
    GladSide deed = lane.built();
    GladSide plain = lane.built();
    int[] turned = {0};
    int[] firstHad = new int[lane.joys];
    int[] firstLost = new int[lane.joys];
    java.util.Arrays.fill(firstHad, -2);
    java.util.Arrays.fill(firstLost, -2);
    for (int n = 0; n <= 60; n++) {
      int[] want = new int[9];
      for (int joy = 0; joy < lane.joys; joy++) {
        boolean lost = plain.of(joy, 7) == 1;
        if (!lost && plain.of(joy, 6) == 0 && plain.of(0, 11) >= plain.of(joy, 1)) want[0] |= 1 << joy;
        if (runs(plain, joy)) want[1] |= 1 << joy;
        if (isHad(plain, joy)) want[2] |= 1 << joy;
        if (lost) want[3] |= 1 << joy;
        int of = plain.of(joy, 12);
        if (runs(plain, joy) && side(plain, of) == plain.of(0, 8)) want[4] |= 1 << of;
        if (lost) want[7] += plain.of(joy, 4);
        if (isHad(plain, joy) && firstHad[joy] < 0) firstHad[joy] = n;
        if (lost && firstLost[joy] < 0) firstLost[joy] = n;
      }
      want[5] = plain.of(0, 8);
      want[6] = worth(plain, lane.joys);
      want[8] = turned[0];
      for (int what = 0; what < 9; what++) due("lane(" + n + ", " + what + ")", seed, freshOrSame(lane, thought, n).lane(n, what), want[what]);
      for (int what = 0; what < 8; what++) due("lane(0, " + what + ") behind " + n, seed, deed.lane(0, what), want[what]);
      due("led turns", seed, deed.led(3), turned[0]);
      int glad = deed.day();
      liveDay(plain, lane, turned);
      due("day()", seed, glad, deed.lane(0, 4));
    }
    for (int joy = 0; joy < lane.joys; joy++) {
      due("when(" + joy + ", 0)", seed, lane.built().when(joy, 0), firstHad[joy]);
      due("when(" + joy + ", 1)", seed, lane.built().when(joy, 1), firstLost[joy]);
    }
  }

  private static GladSide freshOrSame(PlainLane lane, GladSide same, int n) {
    return n % 7 == 6 ? lane.built() : same;
  }

  private static void smells(int seed, PlainLane lane) {
    GladSide x = lane.built();
    int lived = 0;
    for (int one = 0; one < lane.people; one++) lived |= 1 << x.of(one, 0);
    int fined = 0;
    int[] smelt = new int[lane.joys];
    for (int joy = 0; joy < lane.joys; joy++) {
      for (int house = 0; house < 12; house++) {
        if (house % 2 == side(x, x.of(joy, 12))) continue;
        if (runs(x, joy) && x.smell(joy, house) >= x.of(0, 10)) smelt[joy] |= 1 << house;
      }
      due("smelt(" + joy + ")", seed, x.smelt(joy), smelt[joy]);
      if ((smelt[joy] & lived) != 0) fined++;
    }
    due("inspect()", seed, x.inspect(), fined);
    int best = -1;
    for (int shut = 0; shut < 4096; shut++) {
      boolean none = true;
      for (int joy = 0; joy < lane.joys; joy++) {
        boolean own = (shut & 1 << x.of(x.of(joy, 12), 0)) != 0;
        none &= own || (smelt[joy] & shut) == smelt[joy];
      }
      if (none && (best < 0 || Integer.bitCount(shut) < Integer.bitCount(best))) best = shut;
    }
    due("shut(1)", seed, x.shut(1), best);
    due("shut(0)", seed, x.shut(0), Integer.bitCount(best));
  }

  private static void moves(int seed, PlainLane lane, Draws draws) {
    int n = draws.below(41);
    int most = lane.built().lane(n, 6);
    int which = 99;
    for (int one = 0; one < lane.people; one++) {
      for (int house = 0; house < 12; house++) {
        GladSide x = lane.built();
        x.moves(one, house);
        if (x.lane(n, 6) > most) {
          most = x.lane(n, 6);
          which = 12 * one + house;
        }
      }
    }
    due("move(" + n + ", 0)", seed, lane.built().move(n, 0), most);
    due("move(" + n + ", 1)", seed, lane.built().move(n, 1), which);
    for (int v = 0; v < 2; v++) due("over(" + v + ")", seed, lane.built().over(v), fewest(lane, v));
  }

  private static int fewest(PlainLane lane, int v) {
    int best = -2;
    for (int set = 0; set < 1 << lane.people; set++) {
      GladSide x = lane.built();
      x.mend(0, 9, 2);
      x.mend(0, 11, 2);
      for (int one = 0; one < lane.people; one++) {
        if ((set >> one & 1) != 0) x.moves(one, x.of(one, 0) ^ 1);
      }
      int moved = Integer.bitCount(set);
      if (x.lane(1, 5) == v && (best < 0 || moved < best)) best = moved;
    }
    return best;
  }

  private static void dates(int seed, PlainLane lane, Draws draws) {
    if (lane.joys == 0) return;
    int joy = draws.below(lane.joys);
    int n = draws.below(61);
    int most = -1;
    int which = -1;
    GladSide x = lane.built();
    for (int due = 0; due < 100; due++) {
      x.mend(joy, 1, due);
      if (x.lane(n, 6) > most) {
        most = x.lane(n, 6);
        which = due;
      }
    }
    due("date(" + joy + ", " + n + ", 0)", seed, lane.built().date(joy, n, 0), which);
    due("date(" + joy + ", " + n + ", 1)", seed, lane.built().date(joy, n, 1), most);
  }

  private static void shutters(int seed, PlainLane lane, Draws draws) {
    if (lane.people == 0) return;
    int length = draws.below(61);
    int one = draws.below(lane.people);
    int[] seen = new int[length];
    GladSide day = lane.built();
    for (int i = 0; i < length; i++) {
      boolean glad = (day.lane(0, 4) >> one & 1) != 0;
      seen[i] = draws.oneIn(2) ? 9 : glad ? 1 : 0;
      if (draws.oneIn(60)) seen[i] = draws.below(3);
      day.day();
    }
    GladSide x = lane.built();
    x.row(2, 0, length);
    for (int i = 0; i < length; i++) x.put(2, i, seen[i]);
    int who = 0;
    for (int p = 0; p < lane.people; p++) {
      int unlike = firstUnlike(lane.built(), seen, p);
      due("judge(2, " + p + ")", seed, x.judge(2, p), unlike);
      if (unlike == -2) who |= 1 << p;
    }
    due("who(2)", seed, x.who(2), who);
    if (lane.joys == 0) return;
    int joy = draws.below(lane.joys);
    for (int what = 0; what < 4; what += 2) {
      int fit = 0;
      int least = -2;
      for (int v = 0; v <= (what == 0 ? 99 : 40); v++) {
        GladSide y = lane.built();
        y.mend(joy, what == 0 ? 1 : 3, v);
        if (firstUnlike(y, seen, one) != -2) continue;
        if (fit++ == 0) least = v;
      }
      due("fits(2, " + one + joy + ", " + what + ")", seed, x.fits(2, 10 * one + joy, what), fit);
      due("fits(2, " + one + joy + ", " + (what + 1) + ")", seed, x.fits(2, 10 * one + joy, what + 1), least);
    }
  }

  private static int firstUnlike(GladSide x, int[] seen, int one) {
    for (int i = 0; i < seen.length && i <= 40; i++) {
      int glad = x.lane(0, 4) >> one & 1;
      if (seen[i] != 9 && seen[i] != glad) return i;
      x.day();
    }
    return -2;
  }

  private static void neighbours(int seed, PlainLane lane) {
    GladSide x = lane.built();
    int all = worth(x, lane.joys);
    for (int one = 0; one < lane.people; one++) {
      int nearest = 99;
      int his = 0;
      for (int other = 0; other < lane.people; other++) {
        if (side(x, one) != side(x, other)) nearest = Math.min(nearest, Math.abs(place(x, one) - place(x, other)));
      }
      for (int joy = 0; joy < lane.joys; joy++) {
        if (isHad(x, joy) && x.of(joy, 12) == one) his += x.of(joy, 4);
      }
      due("near(" + one + ")", seed, x.near(one), nearest == 99 ? -2 : nearest);
      due("share(" + one + ")", seed, x.share(one, 9973), all == 0 ? 0 : 9973 * his / all);
    }
    for (int apart = 0; apart <= 5; apart++) due("mates(" + apart + ")", seed, x.mates(apart), pairs(x, lane, apart, 0, 0));
  }

  private static int pairs(GladSide x, PlainLane lane, int apart, int one, int paired) {
    if (one >= lane.people) return 0;
    int best = pairs(x, lane, apart, one + 1, paired);
    for (int other = one + 1; other < lane.people && (paired >> one & 1) == 0; other++) {
      if ((paired >> other & 1) != 0 || side(x, one) == side(x, other)) continue;
      if (Math.abs(place(x, one) - place(x, other)) > apart) continue;
      best = Math.max(best, 1 + pairs(x, lane, apart, one + 1, paired | 1 << other));
    }
    return best;
  }

  private static void turns(int seed, PlainLane lane) {
    GladSide x = lane.built();
    int[] sides = new int[lane.people];
    for (int one = 0; one < lane.people; one++) sides[one] = side(x, one);
    for (int n = 1; n <= 4; n++) {
      int whom = 9;
      int best = played(sides, 1, n);
      for (int one = 0; one < lane.people; one++) {
        sides[one] ^= 1;
        int more = played(sides, 1, n);
        sides[one] ^= 1;
        if (more > best) {
          best = more;
          whom = one;
        }
      }
      due("byTurns(" + n + ", 0)", seed, x.byTurns(n, 0), best);
      due("byTurns(" + n + ", 1)", seed, x.byTurns(n, 1), whom);
    }
  }

  private static int played(int[] sides, int time, int n) {
    if (time == n) {
      int more = 0;
      for (int side : sides) more += side == 0 ? 1 : -1;
      return more;
    }
    int best = played(sides, time + 1, n);
    for (int one = 0; one < sides.length; one++) {
      sides[one] ^= 1;
      int more = played(sides, time + 1, n);
      sides[one] ^= 1;
      best = time % 2 == 0 ? Math.max(best, more) : Math.min(best, more);
    }
    return best;
  }

  private static void draws(int seed, PlainLane lane, Draws draws) {
    int n = 1 + draws.below(6);
    int m = 1 + draws.below(40);
    int k = draws.below(13);
    int start = draws.any();
    int z = start;
    int sum = 0;
    int[] often = new int[lane.joys];
    for (int i = 0; i < n; i++) {
      GladSide x = lane.built();
      for (int day = 0; day < m; day++) {
        z = z * 1103515245 + 12345;
        if (lane.people > 0 && (z >>> 24) % 12 < k) x.moves((z >>> 8) % lane.people, (z >>> 16) % 12);
        x.day();
      }
      sum += worth(x, lane.joys);
      for (int joy = 0; joy < lane.joys; joy++) often[joy] += isHad(x, joy) ? 1 : 0;
    }
    int nmk = 10000 * n + 100 * m + k;
    due("drawn(" + start + ", " + nmk + ", -1)", seed, lane.built().drawn(start, nmk, -1), sum);
    for (int joy = 0; joy < lane.joys; joy++) {
      due("drawn(" + start + ", " + nmk + ", " + joy + ")", seed, lane.built().drawn(start, nmk, joy), often[joy]);
    }
  }
}
