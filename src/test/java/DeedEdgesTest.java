/** The edges of promises 25 to 32, sentence by sentence: deeds, what is led, the image, changes undone and done again. */
public final class DeedEdgesTest {
  private static final Checks CHECKS = new Checks();
  private static final int MIN = Integer.MIN_VALUE, MAX = Integer.MAX_VALUE;

  public static void main(String[] args) {
    moves();
    days();
    inspections();
    inspectionOfTen();
    led();
    ledDays();
    image();
    imageOfAll();
    imageKeepsNoMore();
    noImage();
    fortyChanges();
    undoneToNothing();
    doneAgain();
    everyNumberBack();
    deedsBetween();
    CHECKS.end("DeedEdgesTest");
  }

  private static void due(String call, long got, long want) {
    CHECKS.due(call, got, want);
  }

  private static void moves() {
    GladSide x = Lanes.living(0, 1, 2, 3, 4, 5, 6);
    for (int one : new int[] {MIN, -1, 7, MAX}) due("25 BAD: one " + one, x.moves(one, 0), -1);
    for (int house : new int[] {MIN, -1, 12, MAX}) due("25 BAD: house " + house, x.moves(0, house), -1);
    due("25 BAD: none led", x.led(0), 0);
    due("25 BAD: where he lived", x.of(0, 0), 0);
    due("25 the last one to the last house", x.moves(6, 11), 6);
    due("25 back to the least", x.moves(6, 0), 11);
    due("25 to his own HOUSE", x.moves(6, 0), 0);
    due("25 to his own HOUSE counts, too", x.led(0), 3);
    due("25 is no change", x.undo(), -5);
    due("25 BAD: nobody", new GladSide().moves(0, 0), -1);
  }

  private static void days() {
    GladSide empty = new GladSide();
    due("26 nobody is glad", empty.day(), 0);
    GladSide x = Lanes.living(0, 2, 4, 6, 8, 10, 0);
    for (int i = 0; i < 10; i++) x.joy(i % 7, 0);
    due("26 all are glad", x.day(), 127);
    due("26 all are had", x.day(), 0);
    for (int i = 7; i < 10; i++) x.mend(i, 2, 3);
    due("26 none is glad who only was", x.day(), 0);
    for (int i = 7; i < 10; i++) x.mend(i, 6, 1);
    due("26 glad by their second joys", x.day(), 7);
    GladSide turned = Lanes.living(0, 1, 3);
    Lanes.running(turned, 0, 5);
    Lanes.running(turned, 1, 5);
    turned.mend(0, 2, 9);
    turned.mend(1, 2, 9);
    turned.mend(0, 11, 11);
    due("26 glad ahead of the vote", turned.day(), 1);
    due("26 glad behind the vote", turned.day(), 2);
    due("26 the joy of the other side RUNS on", turned.lane(0, 1), 3);
  }

  private static void inspections() {
    GladSide x = Lanes.living(0, 3, 3, 5);
    due("27 no JOY", x.inspect(), 0);
    due("27 nobody", new GladSide().inspect(), 0);
    x.joy(0, 0);
    x.mend(0, 4, 9);
    x.mend(0, 2, 9);
    int[] fined = {0, 1, 1, 1, 1, 1, 1, 1, 1, 0};
    for (int ran = 0; ran <= 9; ran++) {
      x.mend(0, 6, ran);
      due("27 JOYS that RUN: " + ran + " of 9", x.inspect(), fined[ran]);
    }
    due("27 each FINED once an inspection", x.led(4), 8);
    x.mend(0, 6, 1);
    x.mend(0, 7, 1);
    due("27 a LOST one", x.inspect(), 0);
    x.mend(0, 7, 0);
    x.mend(0, 8, 1);
    due("27 one that stands still", x.inspect(), 1);
    x.mend(0, 10, 8);
    due("27 SMELT in HOUSE 1 alone, nobody lives there", x.inspect(), 0);
    due("27 SMELT by HOUSES lived in or not", x.smelt(0), 1 << 1);
    x.moves(2, 1);
    due("27 somebody lives there now", x.inspect(), 1);
    due("27 all FINED", x.led(4), 10);
    GladSide own = Lanes.living(2);
    Lanes.running(own, 0, 9);
    due("27 he alone", own.inspect(), 0);
    own.person(4);
    due("27 who lives on the same SIDE", own.inspect(), 0);
  }

  private static void inspectionOfTen() {
    GladSide x = Lanes.living(0, 1);
    for (int i = 0; i < 10; i++) x.joy(i % 2, 0);
    Lanes.told(x, "9");
    for (int i = 0; i < 10; i++) {
      x.mend(i, 6, 1);
      due("27 how many are FINED, " + i, x.inspect(), i + 1);
    }
    due("27 all together", x.led(4), 55);
    x.mend(0, 10, 9);
    due("27 by the dullest NOSE", x.inspect(), 10);
    Lanes.told(x, "8");
    due("27 less than NOSE", x.inspect(), 0);
  }

  private static void led() {
    GladSide x = Lanes.living(1, 3);
    for (int what : new int[] {MIN, -1, 6, MAX}) due("28 BAD: what " + what, x.led(what), -1);
    x.mend(0, 9, 2);
    x.joy(0, 0);
    x.joy(1, 2);
    x.mend(1, 2, 1);
    int[] votes = {0, 0, 1, 1, 2, 2, 3};
    int[] had = {0, 0, 1, 2, 2, 2, 2};
    for (int i = 0; i < 7; i++) {
      x.day();
      due("28 days behind " + i, x.led(1), i + 1);
      due("28 votes behind " + i, x.led(2), votes[i]);
      due("28 turns behind " + i, x.led(3), Math.min(1, votes[i]));
      due("28 HAD behind " + i, x.led(5), had[i]);
    }
    x.moves(0, 0);
    x.moves(1, 0);
    x.day();
    x.day();
    due("28 another vote", x.led(2), 4);
    due("28 another turn", x.led(3), 2);
    x.moves(0, 1);
    x.day();
    x.day();
    due("28 a vote of as many", x.led(2), 5);
    due("28 is no turn", x.led(3), 2);
    due("28 moves", x.led(0), 3);
  }

  private static void ledDays() {
    GladSide x = Lanes.living(0);
    x.joy(0, 0);
    x.mend(0, 2, 9);
    x.mend(0, 6, 3);
    x.mend(0, 2, 3);
    due("28 HAD by mend() of LASTS", x.lane(0, 2), 1);
    x.day();
    due("28 HAD as they become so by days", x.led(5), 0);
    x.mend(0, 2, 4);
    x.day();
    due("28 HAD again as it becomes so", x.led(5), 1);
    x.mend(0, 11, 199);
    for (int i = 0; i < 40; i++) x.day();
    due("28 days, though 199 stays", x.led(1), 42);
    due("28 no vote on the last DAY", x.led(2), 0);
    x.mend(0, 11, 0);
    x.mend(0, 9, 2);
    x.day();
    due("28 no vote on the first DAY", x.led(2), 0);
    x.undo();
    due("28 changes undone are no deeds", x.led(1), 43);
  }

  private static void image() {
    GladSide x = Lanes.living(0);
    due("29 days: none", x.image(), 0);
    due("30 days: none", x.back(), 0);
    x.mend(0, 11, 100);
    due("29 days, not DAY", x.image(), 0);
    for (int i = 0; i < 3; i++) x.day();
    due("30 days, not DAY", x.back(), 0);
    due("30 DAY", x.of(0, 11), 100);
    x.mend(0, 11, 199);
    for (int i = 0; i < 3; i++) x.day();
    due("29 days, though 199 stays", x.image(), 3);
    x.day();
    due("30 laid back", x.back(), 3);
    x.day();
    due("30 laid back once more", x.back(), 3);
    x.day();
    due("29 another", x.image(), 4);
    due("30 the latest alone", x.back(), 4);
  }

  private static void imageOfAll() {
    GladSide x = Lanes.living(0, 1, 2, 3, 4, 5, 6);
    for (int i = 0; i < 10; i++) {
      x.joy(i % 7, i);
      x.mend(i, 6, i);
      x.mend(i, 7, i % 2);
    }
    x.mend(0, 8, 1);
    x.mend(0, 11, 13);
    x.moves(6, 10);
    x.image();
    for (int i = 0; i < 7; i++) x.moves(i, 11 - i);
    for (int i = 0; i < 10; i++) {
      x.mend(i, 6, 9 - i);
      x.mend(i, 7, 1 - i % 2);
    }
    x.mend(0, 8, 0);
    for (int i = 0; i < 30; i++) x.day();
    x.inspect();
    due("30 laid back", x.back(), 0);
    for (int i = 0; i < 7; i++) due("30 HOUSE of " + i, x.of(i, 0), i < 6 ? i : 10);
    for (int i = 0; i < 10; i++) due("30 RAN of " + i, x.of(i, 6), i);
    for (int i = 0; i < 10; i++) due("30 LOST of " + i, x.of(i, 7), i % 2);
    due("30 GLAD SIDE", x.of(0, 8), 1);
    due("30 DAY", x.of(0, 11), 13);
    for (int what = 0; what < 6; what++) due("30 what LED tells, " + what, x.led(what), what == 0 ? 1 : 0);
  }

  private static void imageKeepsNoMore() {
    GladSide x = Lanes.living(0);
    x.joy(0, 1);
    x.image();
    int[] v = {0, 2, 3, 4, 6, 1, 0, 0, 0, 20, 7};
    for (int what = 1; what <= 10; what++) x.mend(0, what, v[what]);
    x.body(3);
    x.keep(0, 0);
    Lanes.lay(x, 1, 7);
    Lanes.told(x, "3");
    x.feed('1');
    x.act(0, 0, 1);
    int changes = x.count(3);
    x.back();
    for (int what = 1; what <= 10; what++) due("30 as it is, " + what, x.of(0, what), v[what]);
    due("30 THE LAW as it is", x.smell(0, 1), 3);
    due("30 THE TAPE as it is", x.count(2), 1);
    due("30 a BODY as it is", x.taken(0, 3), 3);
    due("30 a ROW as it is", x.element(1, 0), 7);
    due("30 CHANGES as they are", x.count(3), changes);
    due("30 THE TRACE as it is", x.count(5), 1);
  }

  private static void noImage() {
    GladSide x = Lanes.living(3);
    x.day();
    due("30 STATE: there is none", x.back(), -5);
    due("30 STATE changes nothing", x.of(0, 11) * 10 + x.led(1), 11);
    x.moves(0, 4);
    due("30 STATE: still none", x.back(), -5);
    due("30 where he lives", x.of(0, 0), 4);
  }

  /** 57 changes of different numbers: the 40 latest can be undone and done again, each to what it was. */
  private static void fortyChanges() {
    GladSide x = Lanes.living(0, 1, 2, 3, 4, 5, 6);
    for (int i = 0; i < 10; i++) x.joy(0, 0);
    for (int k = 0; k < 57; k++) {
      due("31 at most 40 are kept, ahead of " + k, x.count(3), Math.min(k, 40));
      x.mend(k % 19 % 10, k % 19 < 10 ? 1 : 3, 10 + k % 19 + k / 19);
    }
    for (int k = 56; k >= 17; k--) {
      due("31 how many may still be, behind " + k, x.undo(), k - 17);
      int before = 10 + k % 19 + k / 19 - 1;
      due("31 what it was ahead of " + k, x.of(k % 19 % 10, k % 19 < 10 ? 1 : 3), k < 19 ? (k % 19 < 10 ? 0 : 9) : before);
    }
    due("31 STATE: the oldest are forgotten", x.undo(), -5);
    for (int i = 0; i < 17; i++) due("31 forgotten, as it became", x.of(i % 10, i < 10 ? 1 : 3), 10 + i);
    for (int k = 17; k < 57; k++) {
      due("32 how many may still be, behind " + k, x.redo(), 56 - k);
      due("32 what it became by " + k, x.of(k % 19 % 10, k % 19 < 10 ? 1 : 3), 10 + k % 19 + k / 19);
    }
    due("32 STATE: all are done again", x.redo(), -5);
    due("32 40 may be UNDONE", x.count(3), 40);
    due("32 a change at 40 drops the oldest", x.mend(0, 11, 5), 0);
    due("32 40 still", x.count(3), 40);
    due("31 39 may still be", x.undo(), 39);
    due("32 one may be DONE AGAIN", x.redo(), 0);
  }

  private static void undoneToNothing() {
    GladSide x = Lanes.living(0);
    due("31 STATE: none", x.undo(), -5);
    x.mend(0, 11, 0);
    due("31 the same number is none", x.undo(), -5);
    x.mend(0, 11, 200);
    x.mend(1, 11, 3);
    x.mend(0, 13, 3);
    due("31 BAD is none", x.undo(), -5);
    x.mend(0, 11, 1);
    x.mend(0, 11, 1);
    due("31 told twice is one", x.count(3), 1);
    due("31 none may still be", x.undo(), 0);
    due("31 STATE: none left", x.undo(), -5);
    due("31 STATE changes nothing", x.of(0, 11), 0);
    due("31 count", x.count(3), 0);
    due("32 it can be DONE AGAIN behind STATE", x.redo(), 0);
    due("32 DAY", x.of(0, 11), 1);
    due("32 STATE: none left", x.redo(), -5);
    due("32 STATE changes nothing", x.of(0, 11), 1);
  }

  private static void doneAgain() {
    GladSide x = Lanes.living(0);
    for (int i = 1; i <= 5; i++) x.mend(0, 11, i);
    due("32 STATE: none UNDONE", x.redo(), -5);
    for (int i = 0; i < 3; i++) x.undo();
    x.mend(0, 11, 2);
    x.mend(0, 11, 200);
    x.mend(0, 0, 0);
    due("32 the same number, and BAD, are no other", x.redo(), 2);
    due("32 DAY", x.of(0, 11), 3);
    x.undo();
    x.mend(0, 9, 13);
    due("32 STATE: another came behind", x.redo(), -5);
    due("32 what may be UNDONE", x.count(3), 3);
    due("31 the other one first", x.undo(), 2);
    due("31 YEAR", x.of(0, 9), 12);
    due("32 the other one alone", x.redo(), 0);
    due("32 YEAR", x.of(0, 9), 13);
    due("32 STATE: what it shut out is gone", x.redo(), -5);
    for (int i = 0; i < 3; i++) x.undo();
    due("31 DAY", x.of(0, 11), 0);
    due("32 three may", x.redo(), 2);
  }

  private static void everyNumberBack() {
    int[] v = {11, 99, 9, 40, 9, 3, 9, 1, 1, 30, 9, 199};
    for (int what = 0; what <= 11; what++) {
      GladSide x = Lanes.living(0, 0, 0, 0, 0, 0, 0);
      for (int i = 0; i < 10; i++) x.joy(6, 0);
      int number = what == 0 ? 6 : what < 8 ? 9 : 0;
      int was = x.mend(number, what, v[what]);
      due("31 UNDONE, number " + what, x.undo(), 0);
      due("31 as it was, number " + what, x.of(number, what), was);
      if (what < 8) due("31 of no other, number " + what, x.of(0, what), was);
      due("32 DONE AGAIN, number " + what, x.redo(), 0);
      due("32 as it became, number " + what, x.of(number, what), v[what]);
      if (what < 8) due("32 of no other, number " + what, x.of(0, what), was);
    }
  }

  private static void deedsBetween() {
    GladSide x = Lanes.living(0, 1);
    x.joy(0, 0);
    x.mend(0, 0, 2);
    x.mend(0, 6, 1);
    x.mend(0, 11, 11);
    x.mend(0, 7, 1);
    x.mend(0, 8, 1);
    x.moves(0, 6);
    x.day();
    x.inspect();
    x.image();
    x.back();
    due("31 deeds are none", x.count(3), 5);
    due("31 GLAD SIDE", x.undo(), 4);
    due("31 GLAD SIDE as it was", x.of(0, 8), 0);
    due("31 LOST", x.undo(), 3);
    due("31 LOST as it was", x.of(0, 7), 0);
    due("31 DAY", x.undo(), 2);
    due("31 DAY as it was ahead of mend()", x.of(0, 11), 0);
    due("31 RAN", x.undo(), 1);
    due("31 RAN as it was", x.of(0, 6), 0);
    due("31 HOUSE", x.undo(), 0);
    due("31 HOUSE as it was ahead of mend()", x.of(0, 0), 0);
    x.day();
    x.moves(0, 8);
    for (int i = 4; i >= 0; i--) due("32 deeds hinder nothing", x.redo(), i);
    due("32 HOUSE", x.of(0, 0), 2);
    due("32 DAY", x.of(0, 11), 11);
  }
}
