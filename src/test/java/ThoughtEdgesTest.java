/** The edges of promises 10 to 16, sentence by sentence: what is smelt and shut, what days bring in thought. */
public final class ThoughtEdgesTest {
  private static final Checks CHECKS = new Checks();
  private static final int MIN = Integer.MIN_VALUE, MAX = Integer.MAX_VALUE;
  private static final int EVEN = 0x555, ODD = 0xAAA;

  public static void main(String[] args) {
    smelt();
    smeltFromEverywhere();
    shut();
    shutOfLikeOnes();
    lane();
    laneOfTen();
    when();
    move();
    moveOfLikeOnes();
    over();
    date();
    dateOfLikeOnes();
    CHECKS.end("ThoughtEdgesTest");
  }

  private static void due(String call, long got, long want) {
    CHECKS.due(call, got, want);
  }

  private static void smelt() {
    GladSide x = Lanes.living(0, 11);
    int joy = Lanes.running(x, 0, 5);
    for (int number : new int[] {MIN, -1, 1, MAX}) due("10 BAD: joy " + number, x.smelt(number), -1);
    String[] texts = {"-9", "0", "1", "5", "8", "9", "9999"};
    int[] gives = {0, 0, 1, 5, 8, 9, 9};
    for (int i = 0; i < texts.length; i++) {
      Lanes.told(x, texts[i]);
      for (int nose = 1; nose <= 9; nose++) {
        x.mend(0, 10, nose);
        due("10 NOSE " + nose + " or more of " + texts[i], x.smelt(joy), gives[i] >= nose ? ODD : 0);
      }
    }
    x.mend(joy, 2, 9);
    for (int ran = 0; ran <= 9; ran++) {
      x.mend(joy, 6, ran);
      due("10 it RUNS: " + ran + " of 9", x.smelt(joy), ran > 0 && ran < 9 ? ODD : 0);
    }
    x.mend(joy, 6, 1);
    x.mend(joy, 7, 1);
    due("10 LOST", x.smelt(joy), 0);
    x.mend(joy, 7, 0);
    x.mend(0, 8, 1);
    due("10 it stands still, but RUNS", x.smelt(joy), ODD);
  }

  private static void smeltFromEverywhere() {
    for (int house = 0; house < 12; house++) {
      GladSide x = Lanes.living(house);
      int joy = Lanes.running(x, 0, 9);
      x.mend(0, 10, 1);
      int bits = 0;
      for (int other = 1 - house % 2; other < 12; other += 2) {
        if (9 - 2 * Math.abs(house / 2 - other / 2) >= 1) bits |= 1 << other;
      }
      due("10 without a text, from HOUSE " + house, x.smelt(joy), bits);
      Lanes.told(x, "1");
      due("10 in all of the other SIDE, from HOUSE " + house, x.smelt(joy), house % 2 == 0 ? ODD : EVEN);
    }
  }

  private static void shut() {
    GladSide x = Lanes.living(0, 2, 4, 6, 8, 10);
    for (int what : new int[] {MIN, -1, 2, MAX}) due("11 BAD: what " + what, x.shut(what), -1);
    shuts("no joy", x, 0, 0);
    for (int one = 0; one < 6; one++) x.joy(one, 0);
    Lanes.told(x, "g<1");
    x.mend(0, 10, 1);
    shuts("none RUNS", x, 0, 0);
    int all = 0;
    for (int one = 0; one < 6; one++) {
      x.mend(one, 6, 1);
      all |= 1 << 2 * one;
      shuts("that of each, " + one, x, one + 1, all);
    }
    x.mend(0, 10, 2);
    shuts("all RUN, none SMELT", x, 0, 0);
    GladSide ten = Lanes.living(4, 11);
    for (int i = 0; i < 10; i++) ten.joy(i / 9, 0);
    for (int i = 0; i < 9; i++) ten.mend(i, 6, 1);
    shuts("nine of one HOUSE", ten, 1, 1 << 4);
    ten.mend(9, 6, 1);
    shuts("the tenth is SMELT in 10 alone", ten, 2, 1 << 4 | 1 << 10);
    for (int i = 0; i < 9; i++) ten.mend(i, 6, 0);
    shuts("the tenth alone, of like ones the least", ten, 1, 1 << 10);
    ten.mend(9, 4, 7);
    shuts("that of each, as it is SMELT in two", ten, 1, 1 << 11);
  }

  private static void shuts(String when, GladSide x, int many, int which) {
    due("11 how many: " + when, x.shut(0), many);
    due("11 which: " + when, x.shut(1), which);
  }

  private static void shutOfLikeOnes() {
    GladSide x = Lanes.living(0, 4);
    Lanes.running(x, 0, 0);
    Lanes.running(x, 1, 0);
    Lanes.told(x, "g=1");
    x.mend(0, 10, 1);
    due("11 SMELT one place off", x.smelt(0), 1 << 3);
    due("11 SMELT on both hands", x.smelt(1), 1 << 3 | 1 << 7);
    shuts("of {0, 4}, {3, 4}, {3, 7} the least", x, 2, 1 | 1 << 4);
    GladSide y = Lanes.living(10, 8, 11, 9);
    for (int one = 0; one < 4; one++) Lanes.running(y, one, 0);
    Lanes.told(y, "g<1");
    y.mend(0, 10, 1);
    shuts("across from one another", y, 2, 1 << 8 | 1 << 10);
    GladSide z = Lanes.living(10, 11);
    Lanes.running(z, 0, 5);
    shuts("the one SMELT or its own, the least", z, 1, 1 << 10);
    z.mend(0, 0, 11);
    shuts("where it is SMELT is the least", z, 1, 1 << 10);
  }

  private static void lane() {
    GladSide x = Lanes.living(0);
    x.joy(0, 59);
    x.mend(0, 2, 1);
    for (int what = 0; what <= 8; what++) {
      for (int n : new int[] {MIN, -1, 61, MAX}) due("12 BAD: n " + n + ", what " + what, x.lane(n, what), -1);
    }
    for (int what : new int[] {MIN, -1, 9, MAX}) due("12 BAD: what " + what, x.lane(0, what), -1);
    due("12 WAITS behind 58 days", x.lane(58, 0), 0);
    due("12 WAITS behind 59 days", x.lane(59, 0), 1);
    due("12 HAD behind 59 days", x.lane(59, 2), 0);
    due("12 HAD behind 60 days", x.lane(60, 2), 1);
    due("12 WORTH of HAD behind 60 days", x.lane(60, 6), 5);
    x.mend(0, 0, 1);
    x.mend(0, 9, 2);
    x.mend(0, 3, 0);
    due("12 the vote of day 2 is not of two days", x.lane(2, 8), 0);
    due("12 the vote of day 2 is of three days", x.lane(3, 8), 1);
    x.mend(0, 8, 1);
    due("12 no vote changes it", x.lane(60, 8), 0);
    due("12 behind 0 days", x.lane(0, 8), 0);
    GladSide empty = new GladSide();
    for (int what = 0; what <= 8; what++) due("12 an empty lane, what " + what, empty.lane(60, what), 0);
  }

  private static GladSide ten(int ran, int lost) {
    GladSide x = Lanes.living(0, 2, 4, 6, 8, 10, 0);
    for (int i = 0; i < 10; i++) {
      x.joy(i % 7, 0);
      x.mend(i, 4, 9);
      x.mend(i, 6, ran);
      x.mend(i, 7, lost);
    }
    return x;
  }

  private static void laneOfTen() {
    due("12 all WAIT", ten(0, 0).lane(0, 0), 1023);
    GladSide x = ten(1, 0);
    due("12 all RUN", x.lane(0, 1), 1023);
    due("12 all are glad", x.lane(0, 4), 127);
    due("12 all are glad that day", x.lane(0, 4), 127);
    x.mend(0, 8, 1);
    due("12 none is glad on the other SIDE", x.lane(0, 4), 0);
    due("12 all RUN, though they stand still", x.lane(5, 1), 1023);
    due("12 all HAD", ten(2, 0).lane(0, 2), 1023);
    due("12 WORTH of all that are HAD", ten(2, 0).lane(0, 6), 90);
    due("12 of none LOST", ten(2, 0).lane(0, 7), 0);
    due("12 all LOST", ten(0, 1).lane(0, 3), 1023);
    due("12 WORTH of all LOST", ten(0, 1).lane(60, 7), 90);
    due("12 of none HAD", ten(9, 1).lane(60, 6), 0);
    GladSide y = ten(0, 0);
    due("12 all HAD behind two days", y.lane(2, 6), 90);
    due("12 a joy of theirs RUNS behind one", y.lane(1, 4), 127);
    y.mend(3, 7, 1);
    due("12 one has none that RUNS", y.lane(1, 4), 127 - 8);
    y.mend(0, 7, 1);
    due("12 one has another that RUNS", y.lane(1, 4), 127 - 8);
    y.mend(7, 7, 1);
    due("12 one has no other", y.lane(1, 4), 127 - 8 - 1);
    due("12 WORTH of three LOST", y.lane(1, 7), 27);
  }

  private static void when() {
    GladSide x = Lanes.living(0, 1);
    for (int i = 0; i < 10; i++) x.joy(i < 9 ? 0 : 1, 0);
    for (int joy : new int[] {MIN, -1, 10, MAX}) due("13 BAD: joy " + joy, x.when(joy, 0), -1);
    for (int what : new int[] {MIN, -1, 2, MAX}) due("13 BAD ahead of NOT: what " + what, x.when(9, what), -1);
    x.mend(8, 2, 1);
    x.mend(9, 3, 0);
    int[] dues = {0, 1, 30, 58, 59, 60, 99};
    int[] first = {1, 2, 31, 59, 60, -2, -2};
    for (int i = 0; i < dues.length; i++) {
      x.mend(8, 1, dues[i]);
      x.mend(9, 1, dues[i]);
      due("13 HAD WHEN of due " + dues[i], x.when(8, 0), first[i]);
      due("13 LOST WHEN of due " + dues[i], x.when(9, 1), first[i]);
      due("13 never LOST, of due " + dues[i], x.when(8, 1), -2);
      due("13 never HAD, of due " + dues[i], x.when(9, 0), -2);
    }
    x.mend(8, 6, 1);
    due("13 HAD behind 0 days, too", x.when(8, 0), 0);
    x.mend(9, 7, 1);
    due("13 LOST behind 0 days, too", x.when(9, 1), 0);
    x.mend(9, 6, 2);
    due("13 LOST is never HAD", x.when(9, 0), -2);
    x.mend(0, 11, 199);
    x.mend(7, 2, 9);
    due("13 behind the last DAY, too", x.when(7, 0), 9);
  }

  private static void move() {
    GladSide x = Lanes.living(1);
    x.joy(0, 39);
    x.mend(0, 2, 1);
    x.mend(0, 3, 40);
    x.mend(0, 9, 29);
    for (int n : new int[] {MIN, -1, 41, MAX}) due("14 BAD: n " + n, x.move(n, 0), -1);
    for (int what : new int[] {MIN, -1, 2, MAX}) due("14 BAD: what " + what, x.move(0, what), -1);
    due("14 one of more for the vote: none is as good", x.move(40, 1), 99);
    x.person(0);
    due("14 behind 40 days it is HAD", x.move(40, 0), 5);
    due("14 by the first one to the first HOUSE", x.move(40, 1), 0);
    due("14 behind 39 days it is not", x.move(39, 0), 0);
    due("14 none first", x.move(39, 1), 99);
    due("14 behind 0 days", x.move(0, 1), 99);
    due("14 behind 0 days: nothing HAD", x.move(0, 0), 0);
    x.mend(0, 6, 1);
    due("14 behind 0 days: what is HAD now", x.move(0, 0), 5);
    due("14 none first of what is HAD", x.move(40, 1), 99);
    due("14 where he lives", x.of(0, 0), 1);
    due("14 nobody", new GladSide().move(40, 1), 99);
  }

  private static void moveOfLikeOnes() {
    GladSide x = Lanes.living(0, 2, 4, 1, 3, 5, 7);
    for (int one = 3; one < 7; one++) x.joy(one, 0);
    for (int i = 0; i < 4; i++) x.mend(i, 4, 3);
    x.mend(0, 9, 30);
    due("14 of four like ones the least", x.move(2, 1), 36);
    x.mend(3, 4, 4);
    due("14 the last one is of more WORTH", x.move(2, 1), 72);
    due("14 that", x.move(2, 0), 4);
    x.mend(0, 8, 1);
    for (int one = 3; one < 7; one++) x.mend(one, 0, 0);
    due("14 to the least HOUSE of SIDE 1", x.move(2, 1), 73);
    for (int i = 0; i < 4; i++) x.mend(i, 4, 0);
    due("14 of no WORTH: none", x.move(2, 1), 99);
  }

  private static void over() {
    for (int v : new int[] {MIN, -1, 2, MAX}) due("15 BAD: v " + v, Lanes.living(0).over(v), -1);
    for (int even = 0; even <= 7; even++) {
      for (int odd = 0; even + odd <= 7; odd++) {
        GladSide x = Lanes.sides(even, odd);
        for (int glad = 0; glad <= 1; glad++) {
          x.mend(0, 8, glad);
          due("15 SIDE 0 of " + even + " and " + odd + " from " + glad, x.over(0), fewest(even, odd, glad == 0));
          due("15 SIDE 1 of " + even + " and " + odd + " from " + glad, x.over(1), fewest(odd, even, glad == 1));
        }
      }
    }
  }

  private static int fewest(int having, int others, boolean isGlad) {
    int moved = 0;
    while (having < others || having == others && !isGlad) {
      if (others == 0) return -2;
      having++;
      others--;
      moved++;
    }
    return moved;
  }

  private static void date() {
    GladSide x = Lanes.living(0);
    for (int i = 0; i < 10; i++) x.joy(0, 40);
    for (int joy : new int[] {MIN, -1, 10, MAX}) due("16 BAD: joy " + joy, x.date(joy, 0, 0), -1);
    for (int n : new int[] {MIN, -1, 61, MAX}) due("16 BAD: n " + n, x.date(0, n, 0), -1);
    for (int what : new int[] {MIN, -1, 2, MAX}) due("16 BAD: what " + what, x.date(0, 0, what), -1);
    due("16 the last joy", x.date(9, 2, 1), 5);
    due("16 the last joy's DUE stays", x.of(9, 1), 40);
    x.mend(9, 1, 10);
    due("16 behind 60 days all are HAD", x.date(9, 60, 1), 50);
    due("16 behind 42 days all are HAD", x.date(9, 42, 1), 50);
    due("16 behind 41 days it alone", x.date(9, 41, 1), 5);
    due("16 behind 0 days none", x.date(9, 0, 1), 0);
    GladSide last = Lanes.living(1);
    last.joy(0, 0);
    last.mend(0, 3, 39);
    last.mend(0, 11, 137);
    last.mend(0, 9, 23);
    due("16 the last DUE alone can wait for the vote", last.date(0, 60, 0), 99);
    due("16 that of the last DUE", last.date(0, 60, 1), 5);
    last.mend(0, 11, 138);
    due("16 the vote comes first: any DUE", last.date(0, 60, 0), 0);
    last.mend(0, 3, 40);
    last.mend(0, 11, 139);
    last.mend(0, 9, 20);
    due("16 DUE 100 would do, but is none", last.date(0, 60, 1), 0);
    due("16 DUE 100 would do: the least", last.date(0, 60, 0), 0);
  }

  private static void dateOfLikeOnes() {
    GladSide x = Lanes.living(1, 0, 1);
    x.joy(0, 7);
    x.mend(0, 9, 20);
    due("16 HAD by the vote", x.date(0, 60, 0), 11);
    due("16 of like ones the least, behind 0 days", x.date(0, 0, 0), 0);
    due("16 of no days, that", x.date(0, 0, 1), 0);
    due("16 HAD by the vote, once more", x.date(0, 60, 0), 11);
    x.mend(0, 4, 0);
    due("16 of no WORTH: the least", x.date(0, 60, 0), 0);
    x.mend(0, 4, 5);
    x.mend(0, 7, 1);
    due("16 LOST whatever it is: the least", x.date(0, 60, 0), 0);
    x.mend(0, 7, 0);
    x.mend(0, 6, 2);
    due("16 HAD whatever it is: the least", x.date(0, 60, 0), 0);
    due("16 HAD whatever it is: that", x.date(0, 60, 1), 5);
    due("16 DUE stays", x.of(0, 1), 7);
  }
}
