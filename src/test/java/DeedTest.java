/** Promises 25 to 32: moves, days, fines, what is led, the image, changes undone and done again. */
public final class DeedTest {
  private static final Checks CHECKS = new Checks();

  public static void main(String[] args) {
    promise25();
    promise26();
    promise27();
    promise28();
    promises29and30();
    promise30Came();
    promise31();
    promise31Deeds();
    promise32();
    CHECKS.end("DeedTest");
  }

  private static void due(String call, long got, long want) {
    CHECKS.due(call, got, want);
  }

  private static void promise25() {
    GladSide x = Lanes.living(3, 8);
    due("25 one -1", x.moves(-1, 0), -1);
    due("25 one 2", x.moves(2, 0), -1);
    due("25 house -1", x.moves(0, -1), -1);
    due("25 house 12", x.moves(0, 12), -1);
    due("25 none led", x.led(0), 0);
    due("25 from 3", x.moves(0, 11), 3);
    due("25 lives there", x.of(0, 0), 11);
    due("25 from 8", x.moves(1, 8), 8);
    due("25 to his own counts, too", x.led(0), 2);
    due("25 no change", x.count(3), 0);
  }

  private static void promise26() {
    GladSide x = Lanes.living(0, 1);
    due("26 nobody glad", x.day(), 0);
    x.joy(0, 2);
    x.joy(1, 0);
    due("26 not due", x.day(), 0);
    due("26 glad", x.day(), 1);
    due("26 had", x.day(), 0);
    due("26 day", x.of(0, 11), 4);
    due("26 ran", x.of(0, 6), 2);
    x.mend(0, 11, 9);
    x.day();
    due("26 lost", x.of(1, 7), 1);
    x.mend(0, 11, 199);
    x.day();
    due("26 199 stays", x.of(0, 11), 199);
    due("26 days are led", x.led(1), 6);
    GladSide y = Lanes.living(1, 0, 3);
    y.joy(0, 0);
    y.mend(0, 11, 12);
    due("26 the vote makes glad", y.day(), 1);
    due("26 glad side", y.of(0, 8), 1);
  }

  private static void promise27() {
    GladSide x = Lanes.living(0, 1, 3, 6);
    due("27 no joy", x.inspect(), 0);
    x.joy(0, 0);
    x.mend(0, 4, 9);
    due("27 none runs", x.inspect(), 0);
    x.mend(0, 6, 1);
    due("27 once, though two smell it", x.inspect(), 1);
    due("27 once more", x.inspect(), 1);
    due("27 fined", x.led(4), 2);
    x.joy(1, 0);
    x.mend(1, 6, 1);
    due("27 two", x.inspect(), 2);
    x.mend(3, 0, 7);
    due("27 still two", x.inspect(), 2);
    x.mend(0, 0, 10);
    due("27 who smells the second is gone, the first is smelt in 7", x.inspect(), 1);
    x.mend(3, 0, 6);
    due("27 nobody lives near enough", x.inspect(), 0);
    due("27 all fined", x.led(4), 7);
  }

  private static void promise28() {
    GladSide x = Lanes.living(1, 3, 0);
    due("28 what -1", x.led(-1), -1);
    due("28 what 6", x.led(6), -1);
    x.mend(0, 9, 2);
    x.joy(2, 0);
    x.joy(0, 0);
    x.mend(1, 2, 1);
    int[] votes = {0, 0, 1, 1, 2};
    int[] turns = {0, 0, 1, 1, 1};
    int[] had = {0, 1, 2, 2, 2};
    for (int i = 0; i < 5; i++) {
      x.day();
      due("28 days", x.led(1), i + 1);
      due("28 votes on day " + i, x.led(2), votes[i]);
      due("28 turns on day " + i, x.led(3), turns[i]);
      due("28 had on day " + i, x.led(5), had[i]);
    }
    due("28 no moves", x.led(0), 0);
    due("28 none fined", x.led(4), 0);
    x.lane(60, 8);
    x.drawn(3, 54012, -1);
    x.move(40, 0);
    due("28 thought leads nothing", x.led(1) + 10 * x.led(2) + 100 * x.led(0), 25);
    x.mend(0, 6, 0);
    x.mend(0, 6, 2);
    due("28 had by mend() is no deed", x.led(5), 2);
    GladSide nobody = Lanes.living();
    nobody.mend(0, 9, 2);
    for (int i = 0; i < 3; i++) nobody.day();
    due("28 a vote of nobody", nobody.led(2), 1);
  }

  private static void promises29and30() {
    GladSide x = Lanes.living(1, 0, 3);
    due("30 none", x.back(), -5);
    x.joy(0, 0);
    x.joy(1, 0);
    x.mend(0, 9, 3);
    x.moves(0, 5);
    x.day();
    x.mend(0, 11, 3);
    due("29 days", x.image(), 1);
    int changes = x.count(3);
    x.mend(0, 1, 77);
    for (int i = 0; i < 20; i++) x.day();
    x.moves(1, 9);
    x.mend(0, 7, 1);
    x.inspect();
    due("30 turned", x.of(0, 8), 1);
    due("30 days", x.back(), 1);
    int[] led = {1, 1, 0, 0, 0, 0};
    for (int i = 0; i < 6; i++) due("30 led " + i, x.led(i), led[i]);
    due("30 house of 0", x.of(0, 0), 5);
    due("30 house of 1", x.of(1, 0), 0);
    due("30 ran", x.of(1, 6), 1);
    due("30 lost", x.of(0, 7), 0);
    due("30 glad side", x.of(0, 8), 0);
    due("30 day", x.of(0, 11), 3);
    due("30 what is told stays", x.of(0, 1), 77);
    due("30 changes stay", x.count(3), changes + 2);
    x.day();
    due("30 once more", x.back(), 1);
    due("30 once more, days", x.led(1), 1);
    x.day();
    due("29 the latest counts", x.image(), 2);
    x.day();
    due("30 to the latest", x.back(), 2);
    due("30 day of the latest", x.of(0, 11), 4);
  }

  private static void promise30Came() {
    GladSide x = Lanes.living(0);
    x.joy(0, 0);
    x.image();
    x.person(2);
    x.joy(1, 0);
    x.day();
    x.moves(1, 4);
    due("30 came", x.back(), 0);
    due("30 the first's ran", x.of(0, 6), 0);
    due("30 the new one's house is as it is", x.of(1, 0), 4);
    due("30 the new joy ran as it has", x.of(1, 6), 1);
    due("30 people stay", x.count(0), 2);
    due("30 joys stay", x.count(1), 2);
    x.mend(1, 6, 0);
    x.mend(1, 7, 1);
    due("30 came, lost", x.back(), 0);
    due("30 the new joy is lost as it is", x.of(1, 7), 1);
    GladSide empty = Lanes.living();
    empty.image();
    empty.person(5);
    empty.joy(0, 0);
    empty.mend(0, 6, 3);
    empty.mend(0, 7, 1);
    due("30 to an empty lane", empty.back(), 0);
    due("30 his house is as it is", empty.of(0, 0), 5);
    due("30 his joy ran as it has", empty.of(0, 6), 3);
    due("30 his joy is lost as it is", empty.of(0, 7), 1);
  }

  private static void promise31() {
    GladSide x = Lanes.living(0);
    due("31 none", x.undo(), -5);
    x.joy(0, 4);
    x.mend(0, 1, 4);
    due("31 the same is none", x.undo(), -5);
    x.mend(0, 1, 200);
    due("31 bad is none", x.undo(), -5);
    x.mend(0, 1, 5);
    x.mend(0, 1, 6);
    x.mend(0, 0, 7);
    due("31 three", x.count(3), 3);
    due("31 two left", x.undo(), 2);
    due("31 house", x.of(0, 0), 0);
    due("31 one left", x.undo(), 1);
    due("31 due 5", x.of(0, 1), 5);
    due("31 none left", x.undo(), 0);
    due("31 due 4", x.of(0, 1), 4);
    due("31 no more", x.undo(), -5);
    for (int i = 1; i <= 45; i++) x.mend(0, 11, i);
    due("31 40 are kept", x.count(3), 40);
    for (int i = 39; i >= 0; i--) due("31 undo", x.undo(), i);
    due("31 the 40 latest", x.of(0, 11), 5);
    due("31 the others not", x.undo(), -5);
    GladSide many = Lanes.living(0, 0, 0, 0, 0, 0, 0);
    for (int i = 0; i < 10; i++) many.joy(0, 0);
    for (int i = 0; i < 60; i++) many.mend(i % 10, 1 + i / 10, 1 + i / 10 == 2 ? 4 : 1);
    for (int i = 39; i >= 0; i--) due("31 undo of many", many.undo(), i);
    for (int i = 0; i < 60; i++) {
      int what = 1 + i / 10;
      due("31 left of many " + i, many.of(i % 10, what), i < 20 ? what == 1 ? 1 : 4 : new int[] {9, 5, 0, 0}[what - 3]);
    }
    for (int i = 39; i >= 0; i--) due("32 redo of many", many.redo(), i);
    for (int i = 0; i < 60; i++) due("32 again of many " + i, many.of(i % 10, 1 + i / 10), i / 10 == 1 ? 4 : 1);
    int[] least = {1, 1, 3, 1, 1, 1, 1, 1, 1, 2, 1, 1};
    for (int what = 0; what <= 11; what++) {
      int was = x.mend(0, what, least[what]);
      x.undo();
      due("31 undone " + what, x.of(0, what), was);
      x.redo();
      due("31 done again " + what, x.of(0, what), least[what]);
      x.undo();
    }
  }

  private static void promise31Deeds() {
    GladSide x = Lanes.living(2);
    x.joy(0, 0);
    x.mend(0, 0, 4);
    x.mend(0, 11, 3);
    x.mend(0, 6, 1);
    x.moves(0, 6);
    x.day();
    due("31 deeds are none", x.count(3), 3);
    due("31 ran", x.undo(), 2);
    due("31 ran as it was told", x.of(0, 6), 0);
    due("31 day", x.undo(), 1);
    due("31 day as it was", x.of(0, 11), 0);
    x.day();
    x.image();
    x.person(3);
    x.joy(0, 1);
    x.feed(49);
    x.law();
    due("32 deeds hinder nothing", x.redo(), 1);
    due("32 day again", x.of(0, 11), 3);
    due("31 house", x.undo() + x.undo(), 1);
    due("31 house as it was", x.of(0, 0), 2);
    x.moves(0, 9);
    due("32 house again", x.redo(), 2);
    due("32 as it was told", x.of(0, 0), 4);
    due("31 back is no change", x.back() + x.count(3), 3);
  }

  private static void promise32() {
    GladSide x = Lanes.living(0);
    due("32 none", x.redo(), -5);
    x.mend(0, 9, 20);
    due("32 none undone", x.redo(), -5);
    x.mend(0, 9, 21);
    x.mend(0, 9, 22);
    x.undo();
    x.undo();
    x.undo();
    due("32 two more", x.redo(), 2);
    due("32 year 20", x.of(0, 9), 20);
    due("32 may be undone", x.count(3), 1);
    due("32 one more", x.redo(), 1);
    x.mend(0, 9, 21);
    x.mend(0, 9, 99);
    due("32 the same came behind: it may", x.redo(), 0);
    due("32 year 22", x.of(0, 9), 22);
    due("32 no more", x.redo(), -5);
    x.undo();
    x.mend(0, 10, 2);
    due("32 another came behind", x.redo(), -5);
    due("32 three to undo", x.count(3), 3);
    x.undo();
    x.undo();
    due("32 year 20 again", x.of(0, 9), 20);
  }
}
