/** The edges of THE TAPE and THE LAW, sentence by sentence: promises 7 to 9. */
public final class LawEdgesTest {
  private static final Checks CHECKS = new Checks();
  private static final String DIGITS = "0123456789", NAMES = "wgloky", OPENERS = "(!-";
  private static final String JOINS = "+-*/%|&", COMPARES = "<=>";

  public static void main(String[] args) {
    tape();
    everyByte();
    openAtOnce();
    digits();
    lines();
    fullTape();
    emptied();
    names();
    otherJoys();
    withoutText();
    held();
    wholeNumbers();
    truths();
    order();
    CHECKS.end("LawEdgesTest");
  }

  private static void due(String call, long got, long want) {
    CHECKS.due(call, got, want);
  }

  private static void tape() {
    GladSide x = new GladSide();
    for (int letter : new int[] {Integer.MIN_VALUE, -1, 256, Integer.MAX_VALUE}) {
      due("7 BAD: " + letter, x.feed(letter), -1);
      due("7 BAD: nothing came", x.count(2), 0);
    }
    for (int i = 0; i < 120; i++) due("7 how many it has", x.feed(i * 255 / 119), i + 1);
    due("7 FULL (120)", x.feed(49), -3);
    due("7 FULL: nothing came", x.count(2), 120);
    due("7 BAD ahead of FULL", x.feed(-1), -1);
    due("8 full of no text", x.law(), -100);
    due("7 room again", x.feed(49), 1);
  }

  /** Of all bytes behind a beginning: those that end a text, those that go on, and the others, faults. */
  private static void behind(String beginning, String end, String goOn) {
    int place = beginning.length();
    for (char c = 0; c < 256; c++) {
      int want = end.indexOf(c) >= 0 ? 1 : goOn.indexOf(c) >= 0 ? -100 - place - 1 : -100 - place;
      due("8 byte " + (int) c + " behind " + beginning, Lanes.told(new GladSide(), beginning + c), want);
    }
  }

  private static void everyByte() {
    String all = JOINS + COMPARES + "?;";
    String[] wanting = {"", "1;", "1?", "1+", "1-", "1*", "1/", "1%", "1<", "1=", "1>", "1&", "1|", "!", "-", "w?w;w<w+"};
    for (String beginning : wanting) behind(beginning, DIGITS + NAMES, OPENERS);
    behind("(", "", DIGITS + NAMES + OPENERS);
    behind("1", DIGITS, all);
    behind("999", DIGITS, all);
    behind("9999", "", all);
    behind("w", "", all);
    behind("(1)", "", all);
    behind("!w", "", all);
    behind("1;w", "", all);
    behind("(1", ")", DIGITS + JOINS + COMPARES);
    behind("(w", ")", JOINS + COMPARES);
    behind("((w)", ")", JOINS + COMPARES);
    behind("(w<w", ")", JOINS);
    behind("w<w", "", JOINS + "?;");
    behind("w=w+w", "", JOINS + "?;");
    behind("w<w&w", "", all);
    behind("w<w|w", "", all);
    behind("w<(w<w)", "", JOINS + "?;");
    behind("w?w", "", JOINS + COMPARES + ";");
    behind("w?w;w", "", all);
    behind("w<w;w", "", all);
    behind("w<w?w", "", JOINS + COMPARES + ";");
  }

  private static void openAtOnce() {
    behind("((((((", "", DIGITS + NAMES);
    behind("!!!!!!", DIGITS + NAMES, "");
    behind("------", DIGITS + NAMES, "");
    behind("(!-(!-", "", DIGITS + NAMES);
    behind("w------", DIGITS + NAMES, OPENERS);
    behind("w-------", DIGITS + NAMES, "");
    for (char sign : (JOINS + COMPARES + "?;").toCharArray()) {
      behind("w" + sign + "!!!!!!", DIGITS + NAMES, "");
      behind("w" + sign + "((((((", "", DIGITS + NAMES);
    }
    String[] texts = {"((((((w))))))", "(((((((w)))))))", "!!!!!!w", "!!!!!!!w", "------w", "-------w", "w-------w", "w--------w",
      "((((((w))))))+((((((w))))))", "!!!!!!w+!!!!!!w", "(!!!!!w+!!!!!w)", "(!!!!!!w)", "(((((w)+(w)))))", "((((((w)+(w))))))",
      "((((((w)+((w)))))))", "!(w)!", "!(!(!(w)))", "!(!(!(!w)))", "((((((w)))))(", "w;!!!!!!w?------w;((((((w))))))"};
    int[] faults = {-1, 6, -1, 6, -1, 6, -1, 8, -1, -1, -1, 6, -1, -1, 10, 4, -1, 6, 12, -1};
    for (int i = 0; i < texts.length; i++) {
      due("8 at most 6 open: " + texts[i], Lanes.told(new GladSide(), texts[i]), faults[i] < 0 ? 1 : -100 - faults[i]);
    }
  }

  private static void digits() {
    due("8 a digit", by("0+4"), 4);
    due("8 four digits", by("9999-9991"), 8);
    due("8 four noughts", by("0000+0003"), 3);
    GladSide x = new GladSide();
    due("8 five digits", Lanes.told(x, "00000"), -104);
    due("8 five digits later", Lanes.told(x, "w+12345"), -106);
    due("8 five digits in ( )", Lanes.told(x, "(12345)"), -105);
    due("8 a digit behind a name", Lanes.told(x, "w1"), -101);
    due("8 a name behind a digit", Lanes.told(x, "1w"), -101);
    due("8 a blank ahead", Lanes.told(x, " 1"), -100);
    due("8 a blank within", Lanes.told(x, "1 +1"), -101);
    due("8 a blank behind", Lanes.told(x, "1 "), -101);
  }

  private static void lines() {
    String[] texts = {"3", "0", "1?3", "0?3", "-1?3", "0?1;0?2;3;4", "0?1;2?5;1?6", "0?1;0?2", "0;5", "0?1;0;5", "1?0;5",
      "0?1;4;1?5", "w-7?1;w=7?2;3", "1<0?5;0<1?6"};
    int[] want = {3, 0, 3, 0, 3, 3, 5, 0, 0, 0, 0, 4, 2, 6};
    for (int i = 0; i < texts.length; i++) due("8 the LINE that counts in " + texts[i], by(texts[i]), want[i]);
    StringBuilder many = new StringBuilder();
    for (int i = 0; i < 29; i++) many.append("0?1;");
    due("8 thirty lines", by(many + "7?8"), 8);
    due("8 thirty lines, none counts", by(many + "0?8"), 0);
    due("8 sixty lines", by("5" + ";w".repeat(59)), 5);
  }

  private static void fullTape() {
    String ones = "1" + "-0".repeat(59);
    due("8 119 bytes", by(ones), 1);
    due("8 120 bytes", by(ones + "0"), 1);
    due("8 60 added", by("1+".repeat(59) + "11-61"), 9);
    GladSide x = new GladSide();
    due("8 120 bytes, too early", Lanes.told(x, ones + "-"), -220);
    due("8 119 bytes, too early", Lanes.told(x, ones.substring(1) + "-"), -219);
    due("8 the last of 120 is a fault", Lanes.told(x, ones + ")"), -219);
    for (int i = 0; i < 121; i++) x.feed((ones + "0)").charAt(i));
    due("8 what found no room is no fault", x.law(), 1);
  }

  private static void emptied() {
    GladSide x = Lanes.living(0);
    x.joy(0, 0);
    due("8 an empty TAPE", x.law(), -100);
    due("9 no text yet", x.smell(0, 1), 5);
    due("8 told", Lanes.told(x, "7"), 1);
    due("8 empty then", x.count(2), 0);
    due("8 a FAULT", Lanes.told(x, "8;"), -102);
    due("8 empty then, too", x.count(2), 0);
    due("8 THE LAW is as it was", x.smell(0, 1), 7);
    due("8 empty once more", x.law(), -100);
    due("8 THE LAW is as it was then", x.smell(0, 1), 7);
    due("8 another", Lanes.told(x, "6"), 1);
    due("8 THE LAW is the other", x.smell(0, 1), 6);
    x.feed('3');
    due("8 what is fed is no law yet", x.smell(0, 1), 6);
  }

  /** w 7, g 2, l 3, o 4, k 1, y 6 for smell(0, 5). */
  private static GladSide told() {
    GladSide x = Lanes.living(0, 0);
    x.joy(0, 0);
    x.mend(0, 4, 7);
    x.mend(0, 2, 3);
    x.mend(0, 5, 1);
    x.mend(0, 11, 6);
    for (int i = 0; i < 4; i++) Lanes.running(x, i % 2, 0);
    return x;
  }

  private static int by(String text) {
    GladSide x = told();
    due("8 law " + text, Lanes.told(x, text), 1);
    return x.smell(0, 5);
  }

  private static void names() {
    int[] want = {7, 2, 3, 4, 1, 6};
    for (int i = 0; i < 6; i++) due("9 NAME " + NAMES.charAt(i), by(NAMES.substring(i, i + 1)), want[i]);
    GladSide x = told();
    Lanes.told(x, "y-190");
    x.mend(0, 11, 199);
    due("9 y of the last DAY", x.smell(0, 5), 9);
    x.mend(0, 11, 0);
    Lanes.told(x, "y+3");
    due("9 y of the first DAY", x.smell(0, 5), 3);
    Lanes.told(x, "g");
    int[] places = {0, 1, 2, 3, 4, 5};
    for (int place : places) due("9 g", x.smell(0, 2 * place + 1), place);
    Lanes.told(x, "l");
    for (int lasts = 1; lasts <= 9; lasts++) {
      x.mend(0, 2, lasts);
      due("9 l", x.smell(0, 1), lasts);
    }
    Lanes.told(x, "w*10+k");
    x.mend(0, 4, 0);
    for (int kind = 0; kind <= 3; kind++) {
      x.mend(0, 5, kind);
      due("9 k", x.smell(0, 1), kind);
    }
  }

  private static void otherJoys() {
    GladSide x = Lanes.living(0, 0, 2);
    Lanes.told(x, "o");
    for (int i = 0; i < 10; i++) x.joy(i % 2, 0);
    for (int i = 0; i < 10; i++) {
      x.mend(i, 6, 1);
      due("9 o of the first, " + i, x.smell(0, 1), i);
      due("9 o of the last, " + i, x.smell(9, 1), i == 9 ? 9 : i + 1);
    }
    x.mend(5, 6, 2);
    due("9 o: HAD is no RUNS", x.smell(0, 1), 8);
    x.mend(5, 6, 0);
    due("9 o: WAITS is no RUNS", x.smell(0, 1), 8);
    x.mend(4, 7, 1);
    due("9 o: LOST is no RUNS", x.smell(0, 1), 7);
    x.mend(0, 8, 1);
    due("9 o: what stands still RUNS", x.smell(0, 1), 7);
    x.mend(1, 0, 2);
    due("9 o: of its HOUSE alone", x.smell(0, 1), 3);
    due("9 o: of the other HOUSE", x.smell(9, 1), 3);
    x.mend(1, 0, 1);
    due("9 o: a HOUSE of the other SIDE", x.smell(9, 0), 3);
  }

  private static void withoutText() {
    GladSide x = Lanes.living(0);
    for (int i = 0; i < 10; i++) x.joy(0, 0);
    for (int others = 0; others <= 9; others++) {
      if (others > 0) x.mend(others, 6, 1);
      for (int worth = 0; worth <= 9; worth += 3) {
        x.mend(0, 4, worth);
        for (int place = 0; place < 6; place++) {
          int much = Math.max(0, Math.min(9, worth + others - 2 * place));
          due("9 w " + worth + " and o " + others + ", less 2 times g " + place, x.smell(0, 2 * place + 1), much);
        }
      }
    }
  }

  private static void held() {
    String[] texts = {"-9999", "-1", "0", "1", "8", "9", "10", "9999", "9999*9999", "-9999*9999"};
    int[] want = {0, 0, 0, 1, 8, 9, 9, 9, 9, 0};
    for (int i = 0; i < texts.length; i++) due("9 held within 0 .. 9: " + texts[i], by(texts[i]), want[i]);
  }

  /** Ints that wrap; / and % toward 0, by 0 they give 0. */
  private static void wholeNumbers() {
    String least = "(0-8*4096*4096*16)";
    String[] texts = {"7/2", "-7/2+9", "7/-2+9", "-7/-2", "7%3", "-7%3+5", "7%-3", "-7%-3+5", "5%-3", "3/5", "3%5",
      "7/0+5", "7%0+5", "-7/0+5", "-7%0+5", "0/0+5", "0%0+5", "7/(w-7)+2", "7%(w-7)+2",
      "8*4096*4096*16<0", least + "<0", least + "-1>0", least + "+" + least + "=0", "-" + least + "<0", least + "/-1<0",
      least + "%-1=0", "(" + least + "-1)%10", "9999*9999*9999<0"};
    int[] want = {3, 6, 6, 3, 1, 4, 1, 4, 2, 0, 3,
      5, 5, 5, 5, 5, 5, 2, 2,
      1, 1, 1, 1, 1, 1,
      1, Integer.MAX_VALUE % 10, 9999 * 9999 * 9999 < 0 ? 1 : 0};
    for (int i = 0; i < texts.length; i++) due("9 by " + texts[i], by(texts[i]), want[i]);
  }

  private static void truths() {
    String[] texts = {"2|3", "0|0", "0|-3", "-3|0", "0|1", "1|0", "0|0|7", "2&3", "1&0", "0&1", "0&3", "-1&-2", "-1&0", "1&2&3", "1&2&0",
      "3<4", "4<4", "5<4", "-5<4", "3=4", "4=4", "5=4", "3>4", "4>4", "5>4", "-5>4"};
    int[] want = {1, 0, 1, 1, 1, 1, 1, 1, 0, 0, 0, 1, 0, 1, 0,
      1, 0, 0, 1, 0, 1, 0, 0, 0, 1, 0};
    for (int i = 0; i < texts.length; i++) due("9 by 4 and " + texts[i], by("4+(" + texts[i] + ")"), 4 + want[i]);
    String[] not = {"!0", "!1", "!5", "!-1", "!!0", "!!5", "!(1-1)", "-!0+2", "!-0"};
    int[] wantNot = {1, 0, 0, 0, 0, 1, 1, 1, 1};
    for (int i = 0; i < not.length; i++) due("9 by 4 and " + not[i], by("4+" + not[i]), 4 + wantNot[i]);
  }

  private static void order() {
    String[] texts = {"1|1&0", "0&0|1", "1&0<2", "2|0<1", "2+1<2", "2<2+1", "1+2*3", "2*3+1", "9-2-3", "9-2+1", "8/4*2", "8%5*2", "2*8%5",
      "8/2/2", "-2+5", "-2*3+9", "!0*3", "!1+1", "7-(3-1)", "2*(1+3)", "0|0=0", "1<2", "3-1<1|0"};
    int[] want = {1, 1, 1, 1, 0, 1, 7, 7, 4, 8, 4, 6, 1,
      2, 3, 3, 3, 1, 5, 8, 1, 1, 0};
    for (int i = 0; i < texts.length; i++) due("9 by " + texts[i], by(texts[i]), want[i]);
  }
}
