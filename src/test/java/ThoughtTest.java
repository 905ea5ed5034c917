/** Promises 10 to 16: what is smelt, what is to be shut, what days bring in thought. */
public final class ThoughtTest {
  private static final Checks CHECKS = new Checks();

  public static void main(String[] args) {
    promise10();
    promise11();
    promise12Joys();
    promise12Votes();
    promise12Edges();
    promise13();
    promise14();
    promise15();
    promise16();
    CHECKS.end("ThoughtTest");
  }

  private static void due(String call, long got, long want) {
    CHECKS.due(call, got, want);
  }

  private static void promise10() {
    GladSide x = Lanes.living(4, 5);
    int joy = Lanes.running(x, 0, 5);
    due("10 none such", x.smelt(1), -1);
    due("10 below", x.smelt(-1), -1);
    due("10 own place alone", x.smelt(joy), 1 << 5);
    x.mend(joy, 4, 7);
    due("10 one place farther", x.smelt(joy), 1 << 3 | 1 << 5 | 1 << 7);
    x.mend(0, 10, 3);
    due("10 a finer nose", x.smelt(joy), 1 << 1 | 1 << 3 | 1 << 5 | 1 << 7 | 1 << 9);
    x.mend(0, 8, 1);
    due("10 it stands still, but runs", x.smelt(joy), 1 << 1 | 1 << 3 | 1 << 5 | 1 << 7 | 1 << 9);
    x.mend(joy, 6, 2);
    due("10 had", x.smelt(joy), 0);
    x.mend(joy, 6, 0);
    due("10 waits", x.smelt(joy), 0);
    x.mend(joy, 6, 1);
    x.mend(joy, 7, 1);
    due("10 lost", x.smelt(joy), 0);
    int odd = Lanes.running(x, 1, 5);
    x.mend(0, 10, 5);
    due("10 from side 1", x.smelt(odd), 1 << 4);
  }

  private static void promise11() {
    GladSide x = Lanes.living(0, 1, 5, 6);
    due("11 what -1", x.shut(-1), -1);
    due("11 what 2", x.shut(2), -1);
    due("11 none smelt", x.shut(0), 0);
    due("11 none smelt, which", x.shut(1), 0);
    Lanes.running(x, 0, 5);
    due("11 of like ones the least", x.shut(1), 1);
    Lanes.running(x, 1, 5);
    due("11 both by one", x.shut(0), 1);
    due("11 both by the least one", x.shut(1), 1);
    Lanes.running(x, 2, 5);
    due("11 two", x.shut(0), 2);
    due("11 which two", x.shut(1), 1 | 1 << 4);
    int wide = Lanes.running(x, 3, 9);
    due("11 smelt in five", x.smelt(wide), 1 << 3 | 1 << 5 | 1 << 7 | 1 << 9 | 1 << 11);
    due("11 its own is less than all", x.shut(0), 3);
    due("11 which three", x.shut(1), 1 | 1 << 4 | 1 << 6);
    GladSide y = Lanes.living(2, 6, 10, 5);
    int a = Lanes.running(y, 0, 5);
    Lanes.running(y, 1, 5);
    Lanes.running(y, 2, 5);
    due("11 law", Lanes.told(y, "g<3"), 1);
    y.mend(0, 10, 1);
    due("11 reach", y.smelt(a), 1 << 1 | 1 << 3 | 1 << 5 | 1 << 7);
    due("11 the owners' three", y.shut(1), 1 << 2 | 1 << 6 | 1 << 10);
  }

  private static void promise12Joys() {
    GladSide x = Lanes.living(0, 1, 2);
    x.joy(0, 1);
    x.joy(1, 0);
    x.joy(2, 3);
    x.joy(2, 0);
    x.mend(1, 3, 2);
    x.mend(1, 4, 3);
    x.mend(2, 2, 1);
    x.mend(2, 4, 9);
    x.mend(3, 2, 9);
    int[] waits = {10, 3, 2, 4, 0};
    int[] runs = {0, 8, 9, 8, 8};
    int[] had = {0, 0, 0, 1, 5};
    int[] lost = {0, 0, 0, 2, 2};
    int[] glad = {0, 4, 5, 4, 4};
    int[] worthHad = {0, 0, 0, 5, 14};
    int[] worthLost = {0, 0, 0, 3, 3};
    for (int n = 0; n <= 4; n++) {
      due("12 waits behind " + n, x.lane(n, 0), waits[n]);
      due("12 run behind " + n, x.lane(n, 1), runs[n]);
      due("12 had behind " + n, x.lane(n, 2), had[n]);
      due("12 lost behind " + n, x.lane(n, 3), lost[n]);
      due("12 glad behind " + n, x.lane(n, 4), glad[n]);
      due("12 worth had behind " + n, x.lane(n, 6), worthHad[n]);
      due("12 worth lost behind " + n, x.lane(n, 7), worthLost[n]);
    }
    due("12 nothing changed", x.of(0, 11), 0);
    due("12 nothing led", x.led(1), 0);
    due("12 nothing ran", x.of(3, 6), 0);
  }

  private static void promise12Votes() {
    GladSide x = Lanes.living(1, 3, 0);
    x.mend(0, 9, 3);
    due("12 no vote on day 0", x.lane(1, 5), 0);
    due("12 before the vote", x.lane(3, 5), 0);
    due("12 behind the vote", x.lane(4, 5), 1);
    due("12 turns before", x.lane(3, 8), 0);
    due("12 turns", x.lane(4, 8), 1);
    due("12 turns once alone", x.lane(60, 8), 1);
    x.mend(2, 0, 5);
    x.joy(0, 0);
    due("12 the vote is ahead of the joys", x.lane(4, 1), 1);
    due("12 it waits till then", x.lane(3, 0), 1);
    due("12 glad on the other side now", x.lane(4, 4), 1);
    for (int i = 0; i < 4; i++) x.day();
    due("12 a turn in deed", x.led(3), 1);
    due("12 it is none of these days", x.lane(60, 8), 0);
    x.moves(0, 4);
    x.moves(1, 4);
    due("12 another turn", x.lane(3, 8), 1);
    GladSide y = Lanes.living(1, 0);
    y.mend(0, 8, 1);
    y.mend(0, 9, 2);
    due("12 as many: it stays", y.lane(60, 5), 1);
    due("12 as many: no turn", y.lane(60, 8), 0);
    GladSide z = Lanes.living(1);
    z.mend(0, 9, 2);
    z.mend(0, 11, 2);
    due("12 the vote of today", z.lane(1, 5), 1);
    z.mend(0, 11, 199);
    due("12 day 199 has no vote", z.lane(60, 5), 0);
    GladSide still = Lanes.living(0);
    still.joy(0, 0);
    still.mend(0, 6, 1);
    still.mend(0, 8, 1);
    still.mend(0, 9, 30);
    still.mend(0, 3, 0);
    due("12 a joy that runs is never lost", still.lane(30, 1), 1);
    still.mend(0, 9, 12);
    due("12 it stands still till the vote", still.lane(12, 1), 1);
    still.mend(0, 11, 1);
    due("12 then it runs on", still.lane(12, 2), 1);
  }

  private static void promise12Edges() {
    GladSide x = Lanes.living(0);
    due("12 n -1", x.lane(-1, 0), -1);
    due("12 n 61", x.lane(61, 0), -1);
    due("12 what -1", x.lane(0, -1), -1);
    due("12 what 9", x.lane(0, 9), -1);
    x.joy(0, 0);
    x.mend(0, 7, 1);
    due("12 lost at once", x.lane(0, 3), 1);
    due("12 lost waits no more", x.lane(0, 0), 0);
    x.mend(0, 6, 9);
    due("12 lost is not had", x.lane(0, 2), 0);
    x.mend(0, 7, 0);
    due("12 ran more than it lasts: had", x.lane(0, 2), 1);
    GladSide late = Lanes.living(1);
    late.joy(0, 50);
    late.mend(0, 11, 59);
    due("12 lost on the day of due and late", late.lane(1, 3), 1);
    late.mend(0, 11, 58);
    due("12 not a day ahead", late.lane(1, 3), 0);
    late.mend(0, 11, 49);
    due("12 not due yet", late.lane(0, 0), 0);
    due("12 due", late.lane(1, 0), 1);
    late.mend(0, 3, 0);
    due("12 no putting off", late.lane(2, 3), 1);
  }

  private static void promise13() {
    GladSide x = Lanes.living(0, 1);
    x.joy(0, 5);
    x.joy(1, 5);
    due("13 had", x.when(0, 0), 7);
    due("13 never lost", x.when(0, 1), -2);
    due("13 lost once the other side had it", x.when(1, 1), 15);
    due("13 never had", x.when(1, 0), -2);
    due("13 joy 2", x.when(2, 0), -1);
    due("13 joy -1", x.when(-1, 0), -1);
    due("13 what 2", x.when(0, 2), -1);
    due("13 what -1", x.when(0, -1), -1);
    x.mend(0, 6, 2);
    due("13 had behind 0 days", x.when(0, 0), 0);
    x.mend(1, 7, 1);
    due("13 lost behind 0 days", x.when(1, 1), 0);
    x.joy(0, 58);
    due("13 behind 60 days", x.when(2, 0), 60);
    x.mend(2, 1, 59);
    due("13 behind 61 days", x.when(2, 0), -2);
    x.joy(1, 59);
    x.mend(3, 3, 0);
    due("13 lost behind 60 days", x.when(3, 1), 60);
    x.mend(3, 3, 1);
    due("13 lost behind 61 days", x.when(3, 1), -2);
  }

  private static void promise14() {
    GladSide x = Lanes.living();
    due("14 nobody", x.move(40, 1), 99);
    due("14 nothing", x.move(40, 0), 0);
    x = Lanes.living(0, 1, 3, 4);
    due("14 n -1", x.move(-1, 0), -1);
    due("14 n 41", x.move(41, 0), -1);
    due("14 what 2", x.move(0, 2), -1);
    due("14 what -1", x.move(0, -1), -1);
    x.joy(1, 0);
    due("14 too early", x.move(1, 1), 99);
    due("14 he crosses", x.move(2, 1), 12);
    due("14 it is had", x.move(2, 0), 5);
    x.joy(2, 0);
    x.mend(1, 4, 6);
    due("14 the worthier one", x.move(2, 1), 24);
    due("14 her worth", x.move(2, 0), 6);
    x.mend(0, 4, 6);
    due("14 of like ones the least", x.move(2, 1), 12);
    x.mend(0, 9, 2);
    x.mend(0, 11, 2);
    x.mend(0, 8, 0);
    due("14 one move turns the vote", x.move(2, 0), 12);
    due("14 the first one turns it", x.move(2, 1), 1);
    GladSide y = Lanes.living(0);
    y.joy(0, 0);
    due("14 none is as good", y.move(10, 1), 99);
    due("14 by none", y.move(10, 0), 5);
    due("14 nobody moved", y.of(0, 0), 0);
    y.mend(0, 8, 1);
    due("14 to the least house", y.move(2, 1), 1);
    GladSide z = Lanes.living(0, 0, 0, 0, 0, 0, 1);
    z.joy(6, 0);
    due("14 the last one to house 0", z.move(40, 1), 72);
  }

  private static void promise15() {
    GladSide x = Lanes.living();
    due("15 v -1", x.over(-1), -1);
    due("15 v 2", x.over(2), -1);
    due("15 nobody, it is so", x.over(0), 0);
    due("15 nobody, it can't be", x.over(1), -2);
    x.mend(0, 8, 1);
    due("15 nobody, other side", x.over(0), -2);
    x = Lanes.living(0, 2, 4, 6, 8, 10, 11);
    due("15 six to one", x.over(0), 0);
    due("15 from six to one", x.over(1), 3);
    x = Lanes.living(0, 2, 4, 6, 9, 11);
    due("15 from four to two", x.over(1), 2);
    x.mend(0, 8, 1);
    due("15 as many is enough", x.over(1), 1);
    due("15 more is so already", x.over(0), 0);
    x = Lanes.living(1);
    due("15 alone", x.over(0), 1);
    due("15 alone, so already", x.over(1), 0);
  }

  private static void promise16() {
    GladSide x = Lanes.living(0, 1);
    due("16 no joy", x.date(0, 0, 0), -1);
    x.joy(0, 30);
    due("16 joy -1", x.date(-1, 0, 0), -1);
    due("16 joy 1", x.date(1, 0, 0), -1);
    due("16 n -1", x.date(0, -1, 0), -1);
    due("16 n 61", x.date(0, 61, 0), -1);
    due("16 what -1", x.date(0, 0, -1), -1);
    due("16 what 2", x.date(0, 0, 2), -1);
    due("16 at once", x.date(0, 2, 0), 0);
    due("16 its worth", x.date(0, 2, 1), 5);
    due("16 too early for any", x.date(0, 1, 1), 0);
    due("16 of like ones the least", x.date(0, 1, 0), 0);
    due("16 due stays", x.of(0, 1), 30);
    GladSide y = Lanes.living(1, 3);
    y.mend(0, 9, 20);
    y.joy(0, 50);
    due("16 late enough for the vote", y.date(0, 60, 0), 11);
    due("16 had by it", y.date(0, 60, 1), 5);
    due("16 no change that may be undone", y.count(3), 1);
    GladSide last = Lanes.living(1);
    last.joy(0, 0);
    last.mend(0, 11, 107);
    due("16 the last due alone", last.date(0, 60, 0), 99);
    y.joy(1, 0);
    y.mend(1, 6, 2);
    due("16 all that is had", y.date(0, 60, 1), 10);
  }
}
