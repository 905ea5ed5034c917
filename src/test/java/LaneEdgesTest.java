/** The lane's own edges, sentence by sentence: houses, people, joys, their numbers, days and votes. */
public final class LaneEdgesTest {
  private static final Checks CHECKS = new Checks();
  private static final int MIN = Integer.MIN_VALUE, MAX = Integer.MAX_VALUE;

  public static void main(String[] args) {
    houses();
    people();
    joys();
    joysFromRow();
    joysFromRowRefused();
    numbers();
    numbersOfTheLane();
    statesOfJoys();
    votes();
    majorities();
    putOff();
    running();
    lastDay();
    CHECKS.end("LaneEdgesTest");
  }

  private static void due(String call, long got, long want) {
    CHECKS.due(call, got, want);
  }

  private static void houses() {
    for (int house = 0; house < 12; house++) {
      GladSide x = Lanes.living(house);
      x.joy(0, 0);
      due("SIDE of " + house, x.over(house % 2), 0);
      due("other SIDE than of " + house, x.over(1 - house % 2), 1);
      due("law", Lanes.told(x, "g"), 1);
      for (int other = 0; other < 12; other++) {
        int apart = Math.abs(house / 2 - other / 2);
        due("PLACES of " + house + " and " + other, x.smell(0, other), (house + other) % 2 == 0 ? -1 : apart);
      }
      for (int other : new int[] {MIN, -2, -1, 12, 13, MAX}) due("smell in house " + other, x.smell(0, other), -1);
      for (int joy : new int[] {MIN, -1, 1, MAX}) due("smell of joy " + joy, x.smell(joy, 1 - house % 2), -1);
    }
  }

  private static void people() {
    GladSide x = new GladSide();
    for (int house : new int[] {MIN, -12, -1, 12, 13, MAX}) {
      due("2 BAD: person(" + house + ")", x.person(house), -1);
      due("2 BAD: nobody came", x.count(0), 0);
    }
    due("2 least house", x.person(0), 0);
    due("2 last house", x.person(11), 1);
    for (int i = 2; i < 7; i++) due("2 two may live in one house", x.person(11), i);
    due("2 FULL: 7", x.person(3), -3);
    due("2 FULL: nobody came", x.count(0), 7);
    due("2 FULL: the last one's house", x.of(6, 0), 11);
    due("2 BAD ahead of FULL", x.person(-1), -1);
  }

  private static void joys() {
    GladSide x = Lanes.living(0, 1, 2, 3, 4, 5, 6);
    for (int of : new int[] {MIN, -1, 7, MAX}) due("3 BAD: of " + of, x.joy(of, 0), -1);
    for (int day : new int[] {MIN, -1, 100, MAX}) due("3 BAD: due " + day, x.joy(0, day), -1);
    due("3 BAD: none came", x.count(1), 0);
    due("3 least due", x.joy(6, 0), 0);
    due("3 last due", x.joy(6, 99), 1);
    for (int i = 2; i < 10; i++) due("3 joy", x.joy(i % 7, i), i);
    due("3 FULL: 10", x.joy(0, 0), -3);
    due("3 FULL: none came", x.count(1), 10);
    due("3 BAD ahead of FULL: of", x.joy(7, 0), -1);
    due("3 BAD ahead of FULL: due", x.joy(0, 100), -1);
    int[] first = {9, 2, 9, 5, 0, 0, 0};
    for (int what = 1; what <= 7; what++) due("3 at first, number " + what, x.of(9, what), first[what - 1]);
    due("3 the last one's", x.of(9, 12), 2);
    due("3 the first one's", x.of(0, 12), 6);
  }

  private static GladSide withRow(int... bytes) {
    GladSide x = Lanes.living(0, 1, 2, 3, 4, 5, 6);
    Lanes.lay(x, 0, bytes);
    return x;
  }

  private static void joysFromRow() {
    for (int length = 0; length <= 8; length++) {
      due("4 the row ends, within a three, too: " + length, withRow(new int[length]).joys(0, 0, 10), length / 3);
    }
    GladSide x = withRow(new int[60]);
    int[] places = {57, 58, 59, 60, 61, MAX, -1, -3, MIN};
    for (int place : places) due("4 from place " + place, x.joys(0, place, 10), place == 57 ? 1 : 0);
    for (int n = 1; n <= 10; n++) due("4 n of them: " + n, withRow(new int[60]).joys(0, 0, n), n);
    x = withRow(6, 99, 9, 0, 0, 0);
    due("4 the most and the least", x.joys(0, 0, 2), 2);
    int[] most = {99, 2, 9, 9, 0, 0, 0};
    for (int what = 1; what <= 7; what++) due("4 number " + what, x.of(0, what), most[what - 1]);
    due("4 OF", x.of(0, 12), 6);
    due("4 OF 0", x.of(1, 12), 0);
    due("4 DUE 0", x.of(1, 1), 0);
    due("4 WORTH 0", x.of(1, 4), 0);
    due("4 no change that may be UNDONE", x.undo(), -5);
    int[][] not = {{7, 1, 1}, {-1, 1, 1}, {127, 1, 1}, {1, -1, 1}, {1, 100, 1}, {1, 200, 1}, {1, 1, -1}, {1, 1, 10}, {1, 1, 127}};
    for (int[] three : not) {
      x = withRow(3, 4, 5, three[0], three[1], three[2], 2, 2, 2);
      String name = three[0] + " " + three[1] + " " + three[2];
      due("4 one is not as it may be: " + name, x.joys(0, 0, 3), 1);
      due("4 those ahead came: " + name, x.count(1), 1);
      due("4 as told: " + name, x.of(0, 12) * 100 + x.of(0, 1) * 10 + x.of(0, 4), 345);
      due("4 not as it may be at once: " + name, x.joys(0, 3, 1), 0);
    }
    x = withRow(new int[60]);
    for (int i = 0; i < 8; i++) x.joy(0, 0);
    due("4 JOYS are FULL: those ahead came", x.joys(0, 0, 5), 2);
    due("4 JOYS are FULL", x.joys(0, 0, 5), 0);
    due("4 ten", x.count(1), 10);
    GladSide nobody = new GladSide();
    Lanes.lay(nobody, 0, 0, 0, 0);
    due("4 OF nobody", nobody.joys(0, 0, 1), 0);
  }

  private static void joysFromRowRefused() {
    GladSide x = withRow(new int[9]);
    x.body(0);
    x.keep(1, 0);
    for (int n : new int[] {MIN, -1, 0, 11, MAX}) {
      due("4 BAD: n " + n, x.joys(0, 0, n), -1);
      due("4 BAD ahead of -12: n " + n, x.joys(1, 0, n), -1);
      due("4 BAD, though missing: n " + n, x.joys(5, 0, n), -1);
    }
    for (int shelf : new int[] {MIN, -1, 6, MAX}) due("4 BAD: shelf " + shelf, x.joys(shelf, 0, 1), -1);
    due("4 -12: a body", x.joys(1, 0, 1), -12);
    for (int sort = 1; sort < 5; sort++) {
      x.row(2, sort, 9);
      due("4 -12: a row of sort " + sort, x.joys(2, 0, 1), -12);
      x.row(2, sort, 0);
      due("4 -12: an empty row of sort " + sort, x.joys(2, 0, 1), -12);
    }
    for (int i : new int[] {MIN, -1, 0, MAX}) due("4 holds nothing: missing, from " + i, x.joys(3, i, 1), 0);
    x.keep(2, -1);
    due("4 holds nothing again: missing", x.joys(2, 0, 1), 0);
    due("4 none came", x.count(1), 0);
  }

  private static final int[] LEAST = {0, 0, 1, 0, 0, 0, 0, 0, 0, 2, 1, 0};
  private static final int[] MOST = {11, 99, 9, 40, 9, 3, 9, 1, 1, 30, 9, 199};

  private static void numbers() {
    GladSide x = Lanes.living(0, 1, 2, 3, 4, 5, 6);
    for (int i = 0; i < 10; i++) x.joy(i % 7, 50);
    for (int what = 0; what <= 7; what++) {
      int last = what == 0 ? 6 : 9;
      for (int number : new int[] {MIN, -1, last + 1, MAX}) {
        due("5 BAD: number " + number + " of " + what, x.mend(number, what, LEAST[what]), -1);
        due("6 BAD: number " + number + " of " + what, x.of(number, what), -1);
      }
      int was = x.of(last, what);
      for (int v : new int[] {MIN, LEAST[what] - 1, MOST[what] + 1, MAX}) {
        due("5 BAD: " + v + " for " + what, x.mend(last, what, v), -1);
        due("5 BAD: as it was " + what, x.of(last, what), was);
      }
      due("5 what it was " + what, x.mend(last, what, MOST[what]), was);
      due("5 most of " + what, x.mend(last, what, LEAST[what]), MOST[what]);
      due("5 least of " + what, x.mend(last, what, LEAST[what]), LEAST[what]);
      due("6 least of " + what, x.of(last, what), LEAST[what]);
    }
    for (int what : new int[] {MIN, -1, 12, 13, MAX}) {
      due("5 BAD: what " + what, x.mend(0, what, 0), -1);
      if (what != 12) due("6 BAD: what " + what, x.of(0, what), -1);
    }
    for (int number : new int[] {MIN, -1, 10, MAX}) due("6 BAD: OF of " + number, x.of(number, 12), -1);
    due("6 OF of the last", x.of(9, 12), 2);
  }

  private static void numbersOfTheLane() {
    GladSide x = new GladSide();
    int[] first = {0, 12, 5, 0};
    for (int what = 8; what <= 11; what++) {
      due("6 at first " + what, x.of(0, what), first[what - 8]);
      for (int number : new int[] {MIN, -1, 1, MAX}) {
        due("5 number 0 for these, another: BAD, " + number + " of " + what, x.mend(number, what, LEAST[what]), -1);
        due("6 number 0 for these, another: BAD, " + number + " of " + what, x.of(number, what), -1);
      }
      for (int v : new int[] {MIN, LEAST[what] - 1, MOST[what] + 1, MAX}) {
        due("5 BAD: " + v + " for " + what, x.mend(0, what, v), -1);
      }
      due("5 as it was " + what, x.mend(0, what, MOST[what]), first[what - 8]);
      due("5 most of " + what, x.mend(0, what, LEAST[what]), MOST[what]);
      due("6 least of " + what, x.of(0, what), LEAST[what]);
    }
  }

  /** WAITS, RUNS, is HAD, is LOST, and glad, for all that a joy may be. */
  private static void statesOfJoys() {
    for (int lasts = 1; lasts <= 9; lasts++) {
      GladSide x = Lanes.living(0);
      x.joy(0, 50);
      x.mend(0, 2, lasts);
      for (int ran = 0; ran <= 9; ran++) {
        x.mend(0, 6, ran);
        for (int lost = 0; lost <= 1; lost++) {
          x.mend(0, 7, lost);
          x.mend(0, 11, 50);
          String name = " with RAN " + ran + " of " + lasts + ", LOST " + lost;
          boolean runs = lost == 0 && ran > 0 && ran < lasts;
          due("WAITS on its day" + name, x.lane(0, 0), lost == 0 && ran == 0 ? 1 : 0);
          due("RUNS" + name, x.lane(0, 1), runs ? 1 : 0);
          due("is HAD" + name, x.lane(0, 2), lost == 0 && ran >= lasts ? 1 : 0);
          due("LOST" + name, x.lane(0, 3), lost);
          due("glad" + name, x.lane(0, 4), runs ? 1 : 0);
          x.mend(0, 11, 49);
          due("WAITS a day ahead" + name, x.lane(0, 0), 0);
          x.mend(0, 11, 51);
          due("WAITS a day behind" + name, x.lane(0, 0), lost == 0 && ran == 0 ? 1 : 0);
        }
      }
    }
  }

  private static void votes() {
    for (int year = 2; year <= 30; year++) {
      GladSide x = Lanes.living(1);
      x.mend(0, 9, year);
      for (int day = 0; day <= 199; day++) {
        x.mend(0, 11, day);
        due("a vote on DAY " + day + " by YEAR " + year, x.lane(1, 5), day > 0 && day % year == 0 ? 1 : 0);
      }
    }
  }

  private static void majorities() {
    for (int even = 0; even <= 7; even++) {
      for (int odd = 0; even + odd <= 7; odd++) {
        GladSide x = Lanes.sides(even, odd);
        x.mend(0, 11, 12);
        for (int glad = 0; glad <= 1; glad++) {
          x.mend(0, 8, glad);
          int chosen = even > odd ? 0 : odd > even ? 1 : glad;
          String name = " by " + even + " and " + odd + " from " + glad;
          due("GLAD SIDE" + name, x.lane(1, 5), chosen);
          due("turns" + name, x.lane(1, 8), chosen == glad ? 0 : 1);
        }
      }
    }
  }

  private static void putOff() {
    for (int when : new int[] {0, 1, 50, 99}) {
      for (int late : new int[] {0, 1, 39, 40}) {
        GladSide x = Lanes.living(1, 0);
        x.joy(0, when);
        x.mend(0, 3, late);
        String name = " of DUE " + when + ", LATE " + late;
        x.mend(0, 11, when + late);
        due("LOST on DUE and LATE together" + name, x.lane(1, 3), 1);
        due("LOST no more waits" + name, x.lane(1, 0), 0);
        due("LOST behind that day, not ahead" + name, x.lane(0, 3), 0);
        x.mend(0, 11, 199);
        due("LOST later, too" + name, x.lane(1, 3), 1);
        if (when + late > 0) x.mend(0, 11, when + late - 1);
        due("not LOST a day ahead" + name, x.lane(when + late > 0 ? 1 : 0, 3), 0);
        if (late > 0) due("it waits a day ahead" + name, x.lane(0, 0) + x.lane(1, 0), 2);
        x.mend(0, 8, 1);
        x.mend(0, 11, 199);
        due("on GLAD SIDE it is never too late" + name, x.lane(1, 3), 0);
        due("on GLAD SIDE it RUNS" + name, x.lane(1, 1), 1);
        x.mend(0, 6, 1);
        x.mend(0, 8, 0);
        due("a joy that RUNS is never LOST by days" + name, x.lane(60, 1), 1);
      }
    }
  }

  private static void running() {
    for (int lasts = 1; lasts <= 9; lasts++) {
      GladSide x = Lanes.living(0, 1);
      x.joy(0, 0);
      x.joy(1, 0);
      x.mend(0, 2, lasts);
      x.mend(1, 2, 9);
      x.mend(1, 3, 0);
      x.mend(1, 6, 8);
      for (int n = 1; n <= 11; n++) {
        due("glad while it RUNS, " + lasts + " behind " + n, x.day(), n < lasts ? 1 : 0);
        due("one more each day, " + lasts + " behind " + n, x.of(0, 6), Math.min(n, lasts));
        due("HAD as it becomes so, " + lasts + " behind " + n, x.led(5), n < lasts ? 0 : 1);
        due("it stands still on the other SIDE", x.of(1, 6), 8);
      }
      x.mend(0, 8, 1);
      x.mend(0, 11, 1);
      due("the last of nine days", x.day(), 0);
      due("HAD on the last of nine days", x.lane(0, 2), 3);
    }
  }

  private static void lastDay() {
    GladSide x = Lanes.living(0, 1);
    x.joy(0, 99);
    x.mend(0, 2, 9);
    x.joy(1, 99);
    x.mend(1, 3, 40);
    x.mend(0, 11, 197);
    int[] day = {198, 199, 199, 199, 199};
    for (int i = 0; i < 5; i++) {
      x.day();
      due("199 stays, behind " + i, x.of(0, 11), day[i]);
      due("joys go on behind the last DAY", x.of(0, 6), i + 1);
      due("days are led behind the last DAY", x.led(1), i + 1);
    }
    due("it is HAD then", x.when(0, 0), 4);
    due("the other one is LOST", x.lane(0, 3), 2);
    due("in thought it stays, too", x.lane(60, 2), 1);
    x.mend(1, 7, 0);
    due("LOST on the last DAY, too", x.when(1, 1), 1);
  }
}
