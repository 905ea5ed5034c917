/** Promises 1 to 9: people, joys, the law. */
public final class PeopleTest {
  private static final Checks CHECKS = new Checks();

  public static void main(String[] args) {
    promise1();
    promise2();
    promise3();
    promise4();
    promise5();
    promise6();
    promise7();
    promise8();
    promise9();
    CHECKS.end("PeopleTest");
  }

  private static void due(String call, long got, long want) {
    CHECKS.due(call, got, want);
  }

  private static void promise1() {
    GladSide x = new GladSide();
    for (int what = 0; what <= 5; what++) due("1 count(" + what + ")", x.count(what), 0);
    for (int what = 0; what <= 5; what++) due("1 led(" + what + ")", x.led(what), 0);
    due("1 glad side", x.of(0, 8), 0);
    due("1 year", x.of(0, 9), 12);
    due("1 nose", x.of(0, 10), 5);
    due("1 day", x.of(0, 11), 0);
    due("1 no person", x.of(0, 0), -1);
    due("1 no joy", x.of(0, 1), -1);
    due("1 no image", x.back(), -5);
    for (int shelf = 0; shelf < 6; shelf++) due("1 shelf " + shelf, x.taken(shelf, 0), -11);
  }

  private static void promise2() {
    GladSide x = new GladSide();
    due("2 person(-1)", x.person(-1), -1);
    due("2 person(12)", x.person(12), -1);
    due("2 person(MIN)", x.person(Integer.MIN_VALUE), -1);
    due("2 none came", x.count(0), 0);
    for (int i = 0; i < 7; i++) due("2 person", x.person(11 - i), i);
    due("2 full", x.person(0), -3);
    due("2 bad ahead of full", x.person(12), -1);
    due("2 seven", x.count(0), 7);
    for (int i = 0; i < 7; i++) due("2 house", x.of(i, 0), 11 - i);
  }

  private static void promise3() {
    GladSide x = new GladSide();
    due("3 nobody's", x.joy(0, 0), -1);
    x.person(4);
    due("3 of -1", x.joy(-1, 0), -1);
    due("3 of 1", x.joy(1, 0), -1);
    due("3 due -1", x.joy(0, -1), -1);
    due("3 due 100", x.joy(0, 100), -1);
    for (int i = 0; i < 10; i++) due("3 joy", x.joy(0, 99 - i), i);
    due("3 full", x.joy(0, 0), -3);
    due("3 bad ahead of full", x.joy(0, 100), -1);
    int[] first = {99, 2, 9, 5, 0, 0, 0};
    for (int what = 1; what <= 7; what++) due("3 first " + what, x.of(0, what), first[what - 1]);
    due("3 due of the last", x.of(9, 1), 90);
    due("3 of", x.of(9, 12), 0);
    due("3 ten", x.count(1), 10);
  }

  private static GladSide withRow(int sort, int... elements) {
    GladSide x = new GladSide();
    x.person(2);
    x.person(3);
    x.row(0, sort, elements.length);
    for (int i = 0; i < elements.length; i++) x.put(0, i, elements[i]);
    return x;
  }

  private static void promise4() {
    GladSide x = withRow(0, 7, 1, 20, 9, 0, 99, 0, 1, 3);
    due("4 two", x.joys(0, 1, 2), 2);
    due("4 of", x.of(0, 12), 1);
    due("4 due", x.of(0, 1), 20);
    due("4 worth", x.of(0, 4), 9);
    due("4 lasts", x.of(0, 2), 2);
    due("4 second's of", x.of(1, 12), 0);
    due("4 second's due", x.of(1, 1), 99);
    due("4 second's worth", x.of(1, 4), 0);
    due("4 ends within a three", x.joys(0, 4, 10), 1);
    due("4 no change that may be undone", x.count(3), 0);
    due("4 i below 0", x.joys(0, -1, 1), 0);
    due("4 i below 0 by threes", x.joys(0, -3, 5), 0);
    due("4 i at the end", x.joys(0, 9, 1), 0);
    due("4 i far", x.joys(0, Integer.MAX_VALUE, 10), 0);
    due("4 i far below", x.joys(0, Integer.MIN_VALUE, 10), 0);
    due("4 n 0", x.joys(0, 0, 0), -1);
    due("4 n 11", x.joys(0, 0, 11), -1);
    due("4 shelf 6", x.joys(6, 0, 1), -1);
    due("4 shelf -1", x.joys(-1, 0, 1), -1);
    due("4 missing", x.joys(1, 0, 1), 0);
    x.body(0);
    x.keep(1, 0);
    due("4 a body", x.joys(1, 0, 1), -12);
    due("4 a body, i below 0", x.joys(1, -1, 1), -12);
    due("4 a body, n bad", x.joys(1, 0, 0), -1);
    due("4 ints", withRow(2, 0, 1, 1).joys(0, 0, 1), -12);
    due("4 of 2", withRow(0, 0, 1, 1, 2, 1, 1, 0, 1, 1).joys(0, 0, 3), 1);
    due("4 of -1", withRow(0, -1, 1, 1).joys(0, 0, 1), 0);
    due("4 due 100", withRow(0, 0, 100, 1).joys(0, 0, 1), 0);
    due("4 worth 10", withRow(0, 0, 1, 10).joys(0, 0, 1), 0);
    due("4 worth -1", withRow(0, 0, 1, -1).joys(0, 0, 1), 0);
    due("4 the last three", withRow(0, 1, 2, 3).joys(0, 0, 1), 1);
    due("4 the last three but one", withRow(0, 1, 2, 3, 0).joys(0, 1, 1), 0);
    GladSide full = withRow(0, new int[60]);
    due("4 all that are asked", full.joys(0, 0, 7), 7);
    due("4 up to full", full.joys(0, 0, 10), 3);
    due("4 full", full.joys(0, 0, 10), 0);
    due("4 ten", full.count(1), 10);
  }

  private static void promise5() {
    GladSide x = new GladSide();
    x.person(2);
    x.person(3);
    x.joy(1, 7);
    int[] first = {2, 7, 2, 9, 5, 0, 0, 0, 0, 12, 5, 0};
    int[] least = {0, 0, 1, 0, 0, 0, 0, 0, 0, 2, 1, 0};
    int[] most = {11, 99, 9, 40, 9, 3, 9, 1, 1, 30, 9, 199};
    for (int what = 0; what <= 11; what++) {
      due("5 below " + what, x.mend(0, what, least[what] - 1), -1);
      due("5 above " + what, x.mend(0, what, most[what] + 1), -1);
      due("5 number below " + what, x.mend(-1, what, least[what]), -1);
      due("5 number above " + what, x.mend(what == 0 ? 2 : 1, what, least[what]), -1);
      due("5 as it was " + what, x.of(0, what), first[what]);
      due("5 most " + what, x.mend(0, what, most[what]), first[what]);
      due("5 least " + what, x.mend(0, what, least[what]), most[what]);
      due("5 told " + what, x.of(0, what), least[what]);
    }
    due("5 what -1", x.mend(0, -1, 0), -1);
    due("5 what 12", x.mend(0, 12, 0), -1);
    due("5 the other one", x.mend(1, 0, 8), 3);
    due("5 the other one's", x.of(1, 0), 8);
    due("5 the first one's", x.of(0, 0), 0);
  }

  private static void promise6() {
    GladSide x = new GladSide();
    x.person(9);
    x.person(1);
    x.joy(1, 8);
    x.joy(0, 6);
    due("6 house", x.of(0, 0), 9);
    due("6 due", x.of(1, 1), 6);
    due("6 of", x.of(0, 12), 1);
    due("6 of, second", x.of(1, 12), 0);
    due("6 of, none", x.of(2, 12), -1);
    due("6 of, below", x.of(-1, 12), -1);
    due("6 what 13", x.of(0, 13), -1);
    due("6 what -1", x.of(0, -1), -1);
    for (int what = 8; what <= 11; what++) due("6 number 1 of " + what, x.of(1, what), -1);
    x.day();
    due("6 day", x.of(0, 11), 1);
  }

  private static void promise7() {
    GladSide x = new GladSide();
    due("7 below", x.feed(-1), -1);
    due("7 above", x.feed(256), -1);
    due("7 nothing came", x.count(2), 0);
    for (int i = 1; i <= 120; i++) due("7 feed", x.feed(i == 1 ? 255 : 0), i);
    due("7 full", x.feed(49), -3);
    due("7 bad ahead of full", x.feed(256), -1);
    due("7 all", x.count(2), 120);
    due("7 fault at the first", x.law(), -100);
    due("7 empty", x.count(2), 0);
  }

  private static void promise8() {
    GladSide x = new GladSide();
    String[] texts = {"", "1", "1?", "1?2", "1?2?3", "12345", "1234", "1;", ";1", "1;;", "a", "w g", "(1", "(1)", "1)",
      "1<2<3", "(1<2)<3", "1<2=3", "((((((1))))))", "(((((((1)))))))", "!-!-!-1", "!-!-!-!1", "1--1", "1---------1",
      "1-(-(-(1)))", "1-(-(-(-(1))))", "1*", "1**2", "(1?2)", "w+g-l*o/k%y", "1|2&3<4", "1|", "1&&1", "1==1", "1:", "()",
      "-", "1;w;0?1;w>3?2", "-(1)(2)", "((((((-1))))))", "((((((w))))))|((((((g))))))", "01?0000", "W"};
    int[] faults = {0, -1, 2, -1, 3, 4, -1, 2, 0, 2, 0, 1, 2, -1, 1,
      3, -1, 3, -1, 6, -1, 6, -1, 8,
      -1, 8, 2, 2, 2, -1, -1, 2, 2, 2, 1, 1,
      1, -1, 4, 6, -1, -1, 0};
    for (int i = 0; i < texts.length; i++) {
      due("8 law of " + texts[i], Lanes.told(x, texts[i]), faults[i] < 0 ? 1 : -100 - faults[i]);
      due("8 empty behind " + texts[i], x.count(2), 0);
    }
    x.person(0);
    x.joy(0, 0);
    due("8 seven", Lanes.told(x, "7"), 1);
    due("8 a fault leaves the law", Lanes.told(x, "8)"), -101);
    due("8 seven still", x.smell(0, 1), 7);
    StringBuilder longest = new StringBuilder("1");
    while (longest.length() < 119) longest.append("-0");
    due("8 longest", Lanes.told(x, longest + ";"), -220);
    due("8 longest but one", Lanes.told(x, longest.toString()), 1);
    due("8 it gives", x.smell(0, 1), 1);
  }

  private static void promise9() {
    GladSide x = new GladSide();
    x.person(4);
    x.person(4);
    x.joy(0, 0);
    due("9 same side", x.smell(0, 4), -1);
    due("9 same side, other house", x.smell(0, 0), -1);
    due("9 house 12", x.smell(0, 12), -1);
    due("9 house 13", x.smell(0, 13), -1);
    due("9 house -1", x.smell(0, -1), -1);
    due("9 joy 1", x.smell(1, 1), -1);
    due("9 joy -1", x.smell(-1, 1), -1);
    int[] plain = {1, 3, 5, 3, 1, 0};
    for (int place = 0; place < 6; place++) due("9 plain " + place, x.smell(0, 2 * place + 1), plain[place]);
    x.joy(1, 0);
    x.mend(1, 6, 1);
    due("9 one more runs there", x.smell(0, 5), 6);
    due("9 it is no other of itself", x.smell(1, 5), 5);
    x.mend(1, 0, 6);
    due("9 it runs elsewhere", x.smell(0, 5), 5);
    x.mend(1, 0, 4);
    x.mend(0, 6, 1);
    due("9 the first one runs there", x.smell(1, 5), 6);
    x.mend(0, 6, 2);
    due("9 had runs no more", x.smell(1, 5), 5);
    x.mend(0, 6, 0);
    x.mend(0, 0, 5);
    due("9 house 12 is on no side", x.smell(0, 12), -1);
    due("9 from side 1 now", x.smell(0, 4), 5);
    x.mend(0, 0, 4);
    x.mend(0, 4, 9);
    due("9 at most 9", x.smell(0, 5), 9);
    law9(x, "w", 9);
    law9(x, "g", 1);
    law9(x, "l", 2);
    law9(x, "o", 1);
    x.mend(0, 5, 3);
    law9(x, "k", 3);
    x.mend(0, 11, 8);
    law9(x, "y", 8);
    law9(x, "y+y", 9);
    law9(x, "-1", 0);
    law9(x, "10-3-2", 5);
    law9(x, "8/2/2", 2);
    law9(x, "2+3*2", 8);
    law9(x, "17%10%4", 3);
    law9(x, "5/0+4", 4);
    law9(x, "5%0+3", 3);
    law9(x, "0-(0-7)/2", 3);
    law9(x, "4+(0-7)%4", 1);
    law9(x, "3+-1*2", 1);
    law9(x, "!0+!5+!-1", 1);
    law9(x, "2|0", 1);
    law9(x, "0|0", 0);
    law9(x, "2&3", 1);
    law9(x, "2&0", 0);
    law9(x, "0&0|3", 1);
    law9(x, "1|0&0", 1);
    law9(x, "3<4", 1);
    law9(x, "4<4", 0);
    law9(x, "4=4", 1);
    law9(x, "5>4", 1);
    law9(x, "4>4", 0);
    law9(x, "1+1=2", 1);
    law9(x, "0?5;6", 6);
    law9(x, "2?5;6", 5);
    law9(x, "0?5", 0);
    law9(x, "0;6", 0);
    law9(x, "1?0;6", 0);
    law9(x, "w>9?1;y=8?2;3", 2);
    law9(x, "w>9?1;y=9?2;0?4;3?7", 7);
    law9(x, "9999*9999*9999*9999>0", 1);
    int nines = 9999;
    law9(x, "9999*9999*9999*9999/5000/9999/9", Math.max(0, Math.min(9, nines * nines * nines * nines / 5000 / 9999 / 9)));
    law9(x, "(0-8*4096*4096*16)/(-1)<0", 1);
    law9(x, "(0-8*4096*4096*16)%(-1)=0", 1);
  }

  private static void law9(GladSide x, String text, int want) {
    due("9 law " + text, Lanes.told(x, text), 1);
    due("9 by " + text, x.smell(0, 7), want);
  }
}
