/** Promises 17 to 24: what the shutters showed, shares, pairs, votes by turns, lanes by draws. */
public final class ShutterTest {
  private static final Checks CHECKS = new Checks();

  public static void main(String[] args) {
    promise17();
    promise17Days();
    promise18();
    promise19();
    promise20();
    promise21();
    promise22();
    promise23();
    promise24();
    CHECKS.end("ShutterTest");
  }

  private static void due(String call, long got, long want) {
    CHECKS.due(call, got, want);
  }

  /** Row refusals, as judge(), fits() and who() share them. */
  private static void refuses(String call, int ofEmpty, int ofBody, int ofShorts, int below, int above) {
    due(call + " nothing there", ofEmpty, -11);
    due(call + " a body", ofBody, -12);
    due(call + " shorts", ofShorts, -12);
    due(call + " shelf -1", below, -1);
    due(call + " shelf 6", above, -1);
  }

  private static void layOthers(GladSide x) {
    x.body(0);
    x.keep(1, 0);
    x.row(2, 1, 3);
  }

  private static void promise17() {
    GladSide x = Lanes.living(0, 1);
    layOthers(x);
    x.joy(0, 1);
    refuses("17", x.judge(0, 0), x.judge(1, 0), x.judge(2, 0), x.judge(-1, 0), x.judge(6, 0));
    due("17 one 2", x.judge(0, 2), -1);
    due("17 one -1", x.judge(0, -1), -1);
    due("17 bad ahead of -12", x.judge(1, 2), -1);
    Lanes.lay(x, 0);
    due("17 no elements", x.judge(0, 0), -2);
    Lanes.lay(x, 0, 0, 0, 1, 0);
    due("17 all so", x.judge(0, 0), -2);
    due("17 the other one", x.judge(0, 1), 2);
    Lanes.lay(x, 0, 9, 9, 0, 1);
    due("17 not glad there", x.judge(0, 0), 2);
    Lanes.lay(x, 0, 9, 9, 9, 1);
    due("17 no longer glad", x.judge(0, 0), 3);
    Lanes.lay(x, 0, 9, 2);
    due("17 2 is not so", x.judge(0, 0), 1);
    Lanes.lay(x, 0, -1);
    due("17 -1 is not so", x.judge(0, 0), 0);
    Lanes.lay(x, 0, 257, 256, 265, 256);
    due("17 lowest bits", x.judge(0, 1), 0);
    Lanes.lay(x, 0, 256, 256, 257, 265);
    due("17 lowest bits so", x.judge(0, 0), -2);
  }

  private static void promise17Days() {
    GladSide x = Lanes.living(0);
    x.joy(0, 39);
    int[] seen = new int[60];
    seen[40] = 1;
    seen[41] = 7;
    seen[59] = 1;
    Lanes.lay(x, 5, seen);
    due("17 41 at most count", x.judge(5, 0), -2);
    seen[40] = 0;
    Lanes.lay(x, 5, seen);
    due("17 the last that counts", x.judge(5, 0), 40);
  }

  private static void promise18() {
    GladSide x = Lanes.living(0, 1);
    layOthers(x);
    x.joy(0, 4);
    x.joy(1, 2);
    refuses("18", x.fits(0, 0, 0), x.fits(1, 0, 0), x.fits(2, 0, 0), x.fits(-1, 0, 0), x.fits(6, 0, 0));
    Lanes.lay(x, 0, 0, 0, 9, 1, 9);
    due("18 what -1", x.fits(0, 0, -1), -1);
    due("18 what 4", x.fits(0, 0, 4), -1);
    due("18 joy 2", x.fits(0, 2, 0), -1);
    due("18 one 2", x.fits(0, 20, 0), -1);
    due("18 oj -1", x.fits(0, -1, 0), -1);
    due("18 oj -10", x.fits(0, -10, 0), -1);
    due("18 bad ahead of -12", x.fits(1, 20, 0), -1);
    due("18 one due alone", x.fits(0, 0, 0), 1);
    due("18 which", x.fits(0, 0, 1), 2);
    x.mend(0, 2, 9);
    Lanes.lay(x, 0, 9, 9, 9, 1);
    due("18 three dues", x.fits(0, 0, 0), 3);
    due("18 the least of three", x.fits(0, 0, 1), 0);
    Lanes.lay(x, 0, 0, 0);
    due("18 as good as all", x.fits(0, 0, 0), 99);
    due("18 from 1 on", x.fits(0, 0, 1), 1);
    Lanes.lay(x, 0, 1);
    due("18 none", x.fits(0, 0, 0), 0);
    due("18 none, the least", x.fits(0, 0, 1), -2);
    due("18 no late", x.fits(0, 0, 2), 0);
    due("18 no late, the least", x.fits(0, 0, 3), -2);
    due("18 due stays", x.of(0, 1), 4);
    due("18 late stays", x.of(0, 3), 9);
    GladSide y = Lanes.living(1, 3, 5);
    y.mend(0, 9, 10);
    y.joy(0, 0);
    Lanes.lay(y, 3, 9, 9, 9, 9, 9, 9, 9, 9, 9, 9, 9, 1);
    due("18 lates till the vote", y.fits(3, 0, 2), 31);
    due("18 the least late", y.fits(3, 0, 3), 10);
    Lanes.lay(y, 3, 9, 9, 9, 9, 9, 9, 9, 9, 9, 9, 9, 0);
    due("18 lates too few", y.fits(3, 0, 2), 10);
    due("18 the least of these", y.fits(3, 0, 3), 0);
    Lanes.lay(y, 3, 0, 0);
    due("18 another's shutters, all lates", y.fits(3, 10, 2), 41);
    due("18 another's shutters, all dues", y.fits(3, 10, 0), 100);
  }

  private static void promise19() {
    GladSide x = Lanes.living(0, 1, 2);
    layOthers(x);
    x.joy(0, 0);
    x.joy(2, 1);
    int[] refused = {x.who(0), x.who(1), x.who(2), x.who(-1), x.who(6)};
    refuses("19", refused[0], refused[1], refused[2], refused[3], refused[4]);
    Lanes.lay(x, 0);
    due("19 anybody", x.who(0), 7);
    Lanes.lay(x, 0, 0, 0);
    due("19 not the first", x.who(0), 6);
    Lanes.lay(x, 0, 9, 1);
    due("19 the first", x.who(0), 1);
    Lanes.lay(x, 0, 9, 9, 1);
    due("19 the third", x.who(0), 4);
    Lanes.lay(x, 0, 3);
    due("19 nobody", x.who(0), 0);
    due("19 none at all", emptyLaneWho(), 0);
  }

  private static int emptyLaneWho() {
    GladSide x = Lanes.living();
    Lanes.lay(x, 0, 0);
    return x.who(0);
  }

  private static void promise20() {
    GladSide x = Lanes.living(0, 1, 2);
    due("20 none had", x.share(0, 9999), 0);
    int[] owners = {0, 1, 1, 2};
    int[] worths = {3, 4, 0, 9};
    for (int i = 0; i < 4; i++) {
      x.joy(owners[i], 0);
      x.mend(i, 4, worths[i]);
      x.mend(i, 6, i == 3 ? 1 : 2);
    }
    due("20 three of seven", x.share(0, 100), 42);
    due("20 four of seven", x.share(1, 100), 57);
    due("20 none of seven", x.share(2, 9999), 0);
    due("20 most", x.share(1, 9999), 5713);
    due("20 nothing", x.share(1, 0), 0);
    due("20 v -1", x.share(0, -1), -1);
    due("20 v 10000", x.share(0, 10000), -1);
    due("20 one 3", x.share(3, 1), -1);
    due("20 one -1", x.share(-1, 1), -1);
    x.mend(0, 7, 1);
    due("20 lost is not had", x.share(1, 100), 100);
    x.mend(1, 7, 1);
    due("20 had, but of no worth", x.share(1, 100), 0);
  }

  private static void promise21() {
    GladSide x = Lanes.living(0, 2, 11, 7);
    due("21 near 0", x.near(0), 3);
    due("21 near 1", x.near(1), 2);
    due("21 near 2", x.near(2), 4);
    due("21 near 3", x.near(3), 2);
    due("21 near 4", x.near(4), -1);
    due("21 near -1", x.near(-1), -1);
    x.mend(3, 0, 3);
    due("21 straight across", x.near(1), 0);
    due("21 own side alone", Lanes.living(0, 2, 4).near(1), -2);
    due("21 alone", Lanes.living(1).near(0), -2);
    due("21 ends", Lanes.living(0, 11).near(0), 5);
  }

  private static void promise22() {
    due("22 nobody", Lanes.living().mates(5), 0);
    due("22 x -1", Lanes.living(0, 1).mates(-1), -1);
    due("22 x 6", Lanes.living(0, 1).mates(6), -1);
    due("22 one side", Lanes.living(0, 2, 4).mates(5), 0);
    GladSide x = Lanes.living(0, 0, 0, 1, 5, 9, 9);
    due("22 straight across", x.mates(0), 1);
    due("22 one apart", x.mates(1), 1);
    due("22 two apart", x.mates(2), 2);
    due("22 three apart", x.mates(3), 2);
    due("22 four apart", x.mates(4), 3);
    GladSide chain = Lanes.living(2, 4, 1, 3, 5);
    due("22 the first gives way", chain.mates(1), 2);
    GladSide swap = Lanes.living(4, 0, 5, 9, 1);
    due("22 each has one", swap.mates(2), 2);
    GladSide greedy = Lanes.living(4, 0, 1, 9);
    due("22 not the first that fits", greedy.mates(2), 2);
    due("22 ends", Lanes.living(0, 11).mates(5), 1);
    due("22 ends apart", Lanes.living(0, 11).mates(4), 0);
    due("22 one for many", Lanes.living(0, 2, 4, 6, 8, 10, 5).mates(5), 1);
  }

  private static void promise23() {
    GladSide x = Lanes.living(0, 1, 3);
    due("23 n 0", x.byTurns(0, 0), -2000000000);
    due("23 n 5", x.byTurns(5, 0), -2000000000);
    due("23 what -1", x.byTurns(1, -1), -2000000000);
    due("23 what 2", x.byTurns(1, 2), -2000000000);
    due("23 one time", x.byTurns(1, 0), 1);
    due("23 the second", x.byTurns(1, 1), 1);
    due("23 two times", x.byTurns(2, 0), -1);
    due("23 three times", x.byTurns(3, 0), 1);
    due("23 four times", x.byTurns(4, 0), -1);
    due("23 four times, whom", x.byTurns(4, 1), 1);
    GladSide all = Lanes.living(0, 2, 4);
    due("23 nothing to do", all.byTurns(1, 0), 3);
    due("23 nobody first", all.byTurns(1, 1), 9);
    due("23 he is moved back", all.byTurns(3, 0), 3);
    due("23 as it was", all.of(0, 0), 0);
    due("23 nobody lives", Lanes.living().byTurns(4, 0), 0);
    due("23 nobody moves", Lanes.living().byTurns(4, 1), 9);
    GladSide odd = Lanes.living(1, 3, 5, 7, 9, 11, 1);
    due("23 seven on side 1", odd.byTurns(3, 0), -5);
    due("23 nobody first is as good", odd.byTurns(3, 1), 9);
    due("23 the least first", odd.byTurns(1, 1), 0);
    due("23 nobody moved in deed", odd.led(0), 0);
  }

  private static void promise24() {
    GladSide x = Lanes.living(0, 1, 2);
    x.joy(0, 0);
    x.joy(1, 0);
    due("24 n 0", x.drawn(1, 100, -1), -1);
    due("24 n 31", x.drawn(1, 310100, -1), -1);
    due("24 n 30", x.drawn(1, 300200, -1), 150);
    due("24 m 0", x.drawn(1, 10000, -1), -1);
    due("24 m 41", x.drawn(1, 14100, -1), -1);
    due("24 m 40", x.drawn(1, 14000, -1), 5);
    due("24 moves 13", x.drawn(1, 10113, -1), -1);
    due("24 nmk below 0", x.drawn(1, -10100, -1), -1);
    due("24 joy -2", x.drawn(1, 10100, -2), -1);
    due("24 joy 2", x.drawn(1, 10100, 2), -1);
    due("24 how often", x.drawn(1, 70200, 0), 7);
    due("24 never", x.drawn(1, 70200, 1), 0);
    due("24 nobody moved", x.of(0, 0), 0);
    for (int seed = -3; seed <= 3; seed++) byHand(seed * 715827883);
  }

  /** The same lanes, lived through in deed on lanes of their own. */
  private static void byHand(int seed) {
    int z = seed;
    int worth = 0;
    int often = 0;
    for (int lane = 0; lane < 5; lane++) {
      GladSide x = drawnLane();
      for (int day = 0; day < 17; day++) {
        z = z * 1103515245 + 12345;
        if ((z >>> 24) % 12 < 7) x.moves((z >>> 8) % 4, (z >>> 16) % 12);
        x.day();
      }
      worth += x.lane(0, 6);
      often += x.lane(0, 2) >> 1 & 1;
    }
    due("24 worth of seed " + seed, drawnLane().drawn(seed, 51707, -1), worth);
    due("24 how often of seed " + seed, drawnLane().drawn(seed, 51707, 1), often);
  }

  private static GladSide drawnLane() {
    GladSide x = Lanes.living(0, 3, 5, 8);
    for (int joy = 0; joy < 6; joy++) {
      x.joy(joy % 4, joy);
      x.mend(joy, 2, 1 + joy);
      x.mend(joy, 4, 9 - joy);
    }
    x.mend(0, 9, 5);
    return x;
  }
}
