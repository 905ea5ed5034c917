/** Promises 8 and 9 by drawn texts: the place of the fault by a machine of its own, the worth by a tree. */
public final class LawTextTest {
  private static final Checks CHECKS = new Checks();
  private static final String SIGNS = "0123456789wglokywgloky()()((!-!--+*/%<=>&|?;;?";

  public static void main(String[] args) {
    for (int seed = 0; seed < 20000; seed++) drawnBytes(new Draws(seed));
    for (int seed = 0; seed < 20000; seed++) drawnText(new Draws(seed));
    CHECKS.end("LawTextTest");
  }

  private static void drawnBytes(Draws draws) {
    StringBuilder text = new StringBuilder();
    int length = draws.below(40);
    for (int i = 0; i < length; i++) {
      char sign = draws.oneIn(200) ? (char) draws.below(256) : SIGNS.charAt(draws.below(SIGNS.length()));
      text.append(sign);
      // mostly signs that may stand there, so that faults come late
      if (fault(text.toString()) == i && !draws.oneIn(12)) text.setLength(i--);
    }
    checkFault(text.toString());
  }

  private static void checkFault(String text) {
    int fault = fault(text);
    CHECKS.due("law of " + text, Lanes.told(new GladSide(), text), fault < 0 ? 1 : -100 - fault);
  }

  /** Byte by byte, with all that is open on a stack; -1: it is a text. */
  private static int fault(String text) {
    StringBuilder open = new StringBuilder();
    boolean[] compared = new boolean[200];
    boolean tested = false;
    boolean wanted = true;
    int digits = 0;
    int parens = 0;
    for (int i = 0; i < text.length(); i++) {
      char c = text.charAt(i);
      boolean digit = c >= '0' && c <= '9';
      if (wanted) {
        if (c == '(' || c == '!' || c == '-') {
          if (open.length() == 6) return i;
          open.append(c);
          if (c == '(') compared[++parens] = false;
          continue;
        }
        if (!digit && "wgloky".indexOf(c) < 0) return i;
        digits = digit ? 1 : 0;
        wanted = false;
        closeSigns(open);
        continue;
      }
      if (digit) {
        if (digits == 0 || digits == 4) return i;
        digits++;
        continue;
      }
      digits = 0;
      if (c == ')') {
        if (parens == 0) return i;
        parens--;
        open.setLength(open.length() - 1);
        closeSigns(open);
      } else if ("<=>".indexOf(c) >= 0) {
        if (compared[parens]) return i;
        compared[parens] = true;
        wanted = true;
      } else if ("|&".indexOf(c) >= 0) {
        compared[parens] = false;
        wanted = true;
      } else if ("+-*/%".indexOf(c) >= 0) {
        wanted = true;
      } else if (parens == 0 && (c == ';' || c == '?' && !tested)) {
        tested = c == '?';
        compared[0] = false;
        wanted = true;
      } else {
        return i;
      }
    }
    return wanted || parens > 0 ? text.length() : -1;
  }

  /** What stands ahead of an operand closes with it. */
  private static void closeSigns(StringBuilder open) {
    while (open.length() > 0 && open.charAt(open.length() - 1) != '(') open.setLength(open.length() - 1);
  }

  /** A text and what it is worth, made together. */
  private static final class Part {
    final String text;
    final int worth;

    Part(String text, int worth) {
      this.text = text;
      this.worth = worth;
    }
  }

  private static void drawnText(Draws draws) {
    int[] names = {draws.below(10), draws.below(6), 1 + draws.below(9), draws.below(4), draws.below(4), draws.below(200)};
    StringBuilder text = new StringBuilder();
    int worth = 0;
    boolean counts = false;
    int lines = 1 + draws.below(3);
    for (int i = 0; i < lines; i++) {
      Part first = made(draws, names, 0, 0);
      Part second = draws.oneIn(2) ? made(draws, names, 0, 0) : null;
      if (i > 0) text.append(';');
      text.append(first.text);
      if (second != null) text.append('?').append(second.text);
      if (!counts && (second == null || first.worth != 0)) {
        worth = second == null ? first.worth : second.worth;
        counts = true;
      }
    }
    if (text.length() > 120) return;
    GladSide x = laneOf(names);
    CHECKS.due("law of " + text, Lanes.told(x, text.toString()), 1);
    CHECKS.due("by " + text, x.smell(0, 1), Math.max(0, Math.min(9, worth)));
  }

  private static GladSide laneOf(int[] names) {
    GladSide x = new GladSide();
    x.person(2 * names[1]);
    x.joy(0, 0);
    x.mend(0, 4, names[0]);
    x.mend(0, 2, names[2]);
    x.mend(0, 5, names[4]);
    x.mend(0, 11, names[5]);
    for (int i = 0; i < names[3]; i++) x.mend(x.joy(0, 0), 6, 1);
    return x;
  }

  private static final String[] LEVELS = {"|", "&", "<=>", "+-", "*/%"};

  /** Level 5 is an operand; each level below joins parts of the next one. */
  private static Part made(Draws draws, int[] names, int level, int depth) {
    if (level == 5) return operand(draws, names, depth);
    Part part = made(draws, names, level + 1, depth);
    int more = draws.oneIn(4) ? 1 + draws.below(level == 2 ? 1 : 2) : 0;
    for (int i = 0; i < more; i++) {
      Part next = made(draws, names, level + 1, depth);
      char sign = LEVELS[level].charAt(draws.below(LEVELS[level].length()));
      part = new Part(part.text + sign + next.text, joined(sign, part.worth, next.worth));
    }
    return part;
  }

  private static Part operand(Draws draws, int[] names, int depth) {
    int sort = draws.below(depth < 6 ? 9 : 4);
    if (sort < 2) {
      int number = draws.below(draws.oneIn(3) ? 10000 : 4);
      return new Part(Integer.toString(number), number);
    }
    if (sort < 6) {
      int name = draws.below(6);
      return new Part("wgloky".substring(name, name + 1), names[name]);
    }
    if (sort == 6) {
      Part part = operand(draws, names, depth + 1);
      return new Part("!" + part.text, part.worth == 0 ? 1 : 0);
    }
    if (sort == 7) {
      Part part = operand(draws, names, depth + 1);
      return new Part("-" + part.text, -part.worth);
    }
    Part part = made(draws, names, 0, depth + 1);
    return new Part("(" + part.text + ")", part.worth);
  }

  private static int joined(char sign, int a, int b) {
    boolean so = sign == '|' ? a != 0 || b != 0 : sign == '&' ? a != 0 && b != 0 : sign == '<' ? a < b
      : sign == '=' ? a == b : sign == '>' && a > b;
    if ("|&<=>".indexOf(sign) >= 0) return so ? 1 : 0;
    if (sign == '+') return a + b;
    if (sign == '-') return a - b;
    if (sign == '*') return a * b;
    if (b == 0) return 0;
    return sign == '/' ? a / b : a % b;
  }
}
