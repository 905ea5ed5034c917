import java.util.function.ToLongFunction;

/** "What is answered so changes nothing", and what is thought changes nothing: twins answer the same ever after. */
public final class StillTest {
  private static final Checks CHECKS = new Checks();
  private static final int MIN = Integer.MIN_VALUE, MAX = Integer.MAX_VALUE;

  public static void main(String[] args) {
    refusedNumbers();
    refusedQuestions();
    refusedDeeds();
    refusedShelves();
    refusedWhenFull();
    thought();
    CHECKS.end("StillTest");
  }

  private static GladSide built() {
    GladSide x = Lanes.living(0, 1, 3, 6);
    for (int i = 0; i < 5; i++) x.joy(i % 4, i);
    x.mend(1, 2, 4);
    x.mend(2, 4, 8);
    x.mend(0, 9, 5);
    x.mend(0, 10, 3);
    Lanes.told(x, "w+o-g");
    for (int i = 0; i < 4; i++) x.feed("w-g;".charAt(i));
    x.day();
    x.image();
    x.day();
    x.moves(2, 4);
    x.mend(0, 3, 12);
    x.mend(0, 1, 50);
    x.undo();
    x.body(5);
    x.body(7);
    x.keep(1, 1);
    Lanes.lay(x, 2, 0, 9, 1, 0, 3, 5);
    x.row(3, 3, 4);
    x.put(3, 2, 77);
    x.act(1, 3, 9);
    return x;
  }

  /** Answers to many calls, one behind the other, on what is read first and then on what is done. */
  private static String told(GladSide x) {
    StringBuilder said = new StringBuilder();
    for (int what = 0; what < 6; what++) said.append(x.count(what)).append(' ').append(x.led(what)).append(' ');
    for (int what = 0; what <= 12; what++) {
      for (int number = 0; number < 6; number++) said.append(x.of(number, what)).append(' ');
    }
    for (int i = 0; i < 9; i++) said.append(x.trace(i)).append(' ');
    for (int shelf = 0; shelf < 6; shelf++) said.append(x.taken(shelf, 0)).append(' ');
    for (int i = 0; i < 7; i++) said.append(x.element(2, i)).append(' ').append(x.element(3, i)).append(' ');
    for (int house = 0; house < 12; house++) said.append(x.smell(2, house)).append(' ');
    said.append(x.redo()).append(' ').append(x.of(0, 1)).append(' ').append(x.redo()).append(' ');
    for (int i = 0; i < 8; i++) said.append(x.undo()).append(' ');
    for (int i = 0; i < 6; i++) said.append(x.of(i, 2)).append(x.of(i, 3)).append(x.of(i, 4)).append(' ');
    said.append(x.feed('7')).append(' ').append(x.law()).append(' ').append(x.smell(0, 5)).append(' ');
    for (int i = 0; i < 9; i++) said.append(x.day()).append(' ');
    said.append(x.lane(0, 2)).append(' ').append(x.back()).append(' ').append(x.of(0, 11)).append(' ').append(x.led(0));
    for (int i = 0; i < 3; i++) said.append(x.of(i, 0)).append(x.of(i, 6)).append(' ');
    said.append(x.person(2)).append(' ').append(x.joy(0, 0)).append(' ').append(x.body(0)).append(' ').append(x.act(1, 2, 3));
    return said.toString();
  }

  private static void still(String name, long want, ToLongFunction<GladSide> call) {
    GladSide x = built();
    CHECKS.due(name, call.applyAsLong(x), want);
    String said = told(x);
    String due = told(built());
    CHECKS.holds("nothing changed by " + name + ": " + said + " as " + due, said.equals(due));
  }

  private static void refusedNumbers() {
    for (int v : new int[] {MIN, -1, 12, MAX}) {
      still("person(" + v + ")", -1, x -> x.person(v));
      still("joy(" + v + ", 0)", -1, x -> x.joy(v, 0));
      still("mend(0, " + v + ", 0)", -1, x -> x.mend(0, v, 0));
      still("mend(" + v + ", 0, 0)", -1, x -> x.mend(v, 0, 0));
      still("mend(" + v + ", 3, 0)", -1, x -> x.mend(v, 3, 0));
      still("mend(" + v + ", 11, 0)", -1, x -> x.mend(v, 11, 0));
      still("mend(0, 0, " + v + ")", -1, x -> x.mend(0, 0, v));
      still("of(" + v + ", 12)", -1, x -> x.of(v, 12));
      still("joys(2, 0, " + v + ")", -1, x -> x.joys(2, 0, v));
      still("joys(" + v + ", 0, 1)", -1, x -> x.joys(v, 0, 1));
      still("smell(0, " + v + ")", -1, x -> x.smell(0, v));
    }
    for (int v : new int[] {MIN, -1, 256, MAX}) {
      still("joy(0, " + v + ")", -1, x -> x.joy(0, v));
      still("feed(" + v + ")", -1, x -> x.feed(v));
      for (int what = 1; what <= 11; what++) {
        int number = what;
        still("mend(0, " + what + ", " + v + ")", -1, x -> x.mend(0, number, v));
      }
    }
    still("joys(1, 0, 1)", -12, x -> x.joys(1, 0, 1));
    still("joys(3, 0, 1)", -12, x -> x.joys(3, 0, 1));
    still("joys(0, 0, 1)", 0, x -> x.joys(0, 0, 1));
    still("joys(2, -1, 1)", 0, x -> x.joys(2, -1, 1));
    still("joys(2, 4, 1)", 0, x -> x.joys(2, 4, 1));
    still("the same number", 5, x -> x.mend(0, 9, 5));
  }

  private static void refusedQuestions() {
    for (int v : new int[] {MIN, -1, 61, MAX}) {
      still("smelt(" + v + ")", -1, x -> x.smelt(v));
      still("shut(" + v + ")", -1, x -> x.shut(v));
      still("lane(" + v + ", 0)", -1, x -> x.lane(v, 0));
      still("lane(0, " + v + ")", -1, x -> x.lane(0, v));
      still("when(" + v + ", 0)", -1, x -> x.when(v, 0));
      still("when(0, " + v + ")", -1, x -> x.when(0, v));
      still("move(" + v + ", 0)", -1, x -> x.move(v, 0));
      still("move(0, " + v + ")", -1, x -> x.move(0, v));
      still("over(" + v + ")", -1, x -> x.over(v));
      still("date(" + v + ", 0, 0)", -1, x -> x.date(v, 0, 0));
      still("date(0, " + v + ", 0)", -1, x -> x.date(0, v, 0));
      still("date(0, 0, " + v + ")", -1, x -> x.date(0, 0, v));
      still("judge(2, " + v + ")", -1, x -> x.judge(2, v));
      still("judge(" + v + ", 0)", -1, x -> x.judge(v, 0));
      still("fits(2, " + v + ", 0)", -1, x -> x.fits(2, v, 0));
      still("fits(2, 0, " + v + ")", -1, x -> x.fits(2, 0, v));
      still("who(" + v + ")", -1, x -> x.who(v));
      still("share(" + v + ", 1)", -1, x -> x.share(v, 1));
      still("near(" + v + ")", -1, x -> x.near(v));
      still("mates(" + v + ")", -1, x -> x.mates(v));
      still("byTurns(" + v + ", 0)", -2000000000, x -> x.byTurns(v, 0));
      still("byTurns(1, " + v + ")", -2000000000, x -> x.byTurns(1, v));
      still("drawn(1, " + v + ", -1)", -1, x -> x.drawn(1, v, -1));
    }
    for (int shelf = 0; shelf < 4; shelf++) {
      int on = shelf;
      int want = shelf == 0 ? -11 : -12;
      if (shelf == 2) continue;
      still("judge(" + shelf + ", 0)", want, x -> x.judge(on, 0));
      still("fits(" + shelf + ", 0, 2)", want, x -> x.fits(on, 0, 2));
      still("who(" + shelf + ")", want, x -> x.who(on));
    }
  }

  private static void refusedDeeds() {
    for (int v : new int[] {MIN, -1, 12, MAX}) {
      still("moves(" + v + ", 0)", -1, x -> x.moves(v, 0));
      still("moves(0, " + v + ")", -1, x -> x.moves(0, v));
      still("led(" + v + ")", -1, x -> x.led(v));
      still("trace(" + v + ")", -1, x -> x.trace(v));
      still("body(" + v + ")", -1, x -> x.body(v));
      still("count(" + v + ")", -1, x -> x.count(v));
    }
    GladSide none = Lanes.living(2);
    CHECKS.due("back() of none", none.back(), -5);
    CHECKS.due("undo() of none", none.undo(), -5);
    CHECKS.due("redo() of none", none.redo(), -5);
    String said = told(none);
    CHECKS.holds("nothing changed by STATE", said.equals(told(Lanes.living(2))));
  }

  private static void refusedShelves() {
    for (int v : new int[] {MIN, -2, 61, MAX}) {
      still("keep(" + v + ", 0)", -1, x -> x.keep(v, 0));
      still("keep(2, " + v + ")", -1, x -> x.keep(2, v));
      still("row(" + v + ", 0, 1)", -1, x -> x.row(v, 0, 1));
      still("row(2, " + v + ", 1)", -1, x -> x.row(2, v, 1));
      still("row(2, 0, " + v + ")", v < 0 ? -14 : -1, x -> x.row(2, 0, v));
      still("put(" + v + ", 0, 1)", -1, x -> x.put(v, 0, 1));
      still("put(2, " + v + ", 1)", -13, x -> x.put(2, v, 1));
      still("put(0, " + v + ", 1)", -11, x -> x.put(0, v, 1));
      still("put(1, " + v + ", 1)", -12, x -> x.put(1, v, 1));
      still("element(2, " + v + ")", Long.MIN_VALUE, x -> x.element(2, v));
      still("shift(" + v + ", 0, 2, 0, 1)", -1, x -> x.shift(v, 0, 2, 0, 1));
      still("shift(2, 0, " + v + ", 0, 1)", -1, x -> x.shift(2, 0, v, 0, 1));
      still("shift(2, " + v + ", 2, 0, 1)", -13, x -> x.shift(2, v, 2, 0, 1));
      still("shift(2, 0, 2, " + v + ", 1)", -13, x -> x.shift(2, 0, 2, v, 1));
      still("shift(2, 0, 2, 1, " + v + ")", -13, x -> x.shift(2, 0, 2, 1, v));
      still("shift(0, 0, 2, 1, " + v + ")", -11, x -> x.shift(0, 0, 2, 1, v));
      still("shift(2, 0, 3, 1, " + v + ")", -12, x -> x.shift(2, 0, 3, 1, v));
      still("taken(1, " + v + ")", -1, x -> x.taken(1, v));
      still("taken(" + v + ", 0)", -1, x -> x.taken(v, 0));
    }
    still("taken(0, 0)", -11, x -> x.taken(0, 0));
    still("taken(1, 1)", -12, x -> x.taken(1, 1));
  }

  private static void refusedWhenFull() {
    GladSide x = Lanes.living(0, 1, 2, 3, 4, 5, 6);
    for (int i = 0; i < 10; i++) x.joy(i % 7, i);
    for (int i = 0; i < 120; i++) x.feed(i % 2 == 0 ? 'w' : '+');
    for (int i = 0; i < 50; i++) x.body(i % 8);
    CHECKS.due("person() when full", x.person(9), -3);
    CHECKS.due("joy() when full", x.joy(3, 77), -3);
    CHECKS.due("feed() when full", x.feed('1'), -3);
    CHECKS.due("body() when full", x.body(2), -3);
    int[] most = {7, 10, 120, 0, 50};
    for (int what = 0; what < 5; what++) CHECKS.due("count(" + what + ") when full", x.count(what), most[what]);
    for (int i = 0; i < 7; i++) CHECKS.due("house of " + i, x.of(i, 0), i);
    for (int i = 0; i < 10; i++) CHECKS.due("due of " + i, x.of(i, 1), i);
    x.keep(0, 49);
    CHECKS.due("the last BODY", x.taken(0, 0), 1);
    CHECKS.due("120 bytes, too early", x.law(), -220);
  }

  private static void thought() {
    GladSide x = built();
    for (int i = 0; i < 12; i++) x.smell(2, i);
    for (int i = 0; i < 5; i++) x.smelt(i);
    for (int what = 0; what < 2; what++) x.shut(what);
    for (int what = 0; what < 9; what++) x.lane(60, what);
    for (int i = 0; i < 5; i++) x.when(i, i % 2);
    for (int n = 0; n <= 40; n += 20) x.move(n, n / 20 % 2);
    for (int v = 0; v < 2; v++) x.over(v);
    for (int i = 0; i < 5; i++) x.date(i, 60 - i, i % 2);
    for (int one = 0; one < 4; one++) x.judge(2, one);
    for (int what = 0; what < 4; what++) x.fits(2, 10 * what + what, what);
    x.who(2);
    for (int one = 0; one < 4; one++) x.share(one, 9999);
    for (int one = 0; one < 4; one++) x.near(one);
    for (int apart = 0; apart <= 5; apart++) x.mates(apart);
    for (int n = 1; n <= 4; n++) x.byTurns(n, n % 2);
    for (int joy = -1; joy < 5; joy++) x.drawn(7, 34012, joy);
    CHECKS.holds("nothing changed in thought", told(x).equals(told(built())));
  }
}
