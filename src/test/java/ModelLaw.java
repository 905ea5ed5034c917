/** A law's text by its sentences alone: a text is split at its last sign of the weakest kind, again and again. */
final class ModelLaw {
  private static final String NAMES = "wgloky";
  private static final String OPERAND_ENDS = "0123456789)" + NAMES;
  private final int[] values;
  private boolean wrong;

  ModelLaw(int... values) {
    this.values = values;
  }

  /** What the whole text gives; the text is known to be one. */
  int worth(String text) {
    for (String line : parts(text, ';')) {
      String[] two = parts(line, '?');
      if (two.length == 1) return either(line, 0);
      if (either(two[0], 0) != 0) return either(two[1], 0);
    }
    return 0;
  }

  /** -1: it is a text; else its fault. */
  static int fault(String text) {
    for (int i = 1; i <= text.length(); i++) {
      if (!goesOn(text.substring(0, i))) return i - 1;
    }
    return isText(text) ? -1 : text.length();
  }

  /** A text goes on with this, if one does by at most a number and some brackets. */
  private static boolean goesOn(String begun) {
    String closed = "";
    for (int i = 0; i <= 6; i++) {
      if (isText(begun + closed) || isText(begun + "1" + closed)) return true;
      closed += ")";
    }
    return false;
  }

  private static boolean isText(String text) {
    ModelLaw reader = new ModelLaw(0, 0, 0, 0, 0, 0);
    for (String line : parts(text, ';')) {
      String[] two = parts(line, '?');
      if (two.length > 2) return false;
      for (String part : two) reader.either(part, 0);
    }
    return !reader.wrong;
  }

  /** Split at every such sign, wherever it stands: within brackets it can't. */
  private static String[] parts(String text, char sign) {
    return text.split("\\" + sign, -1);
  }

  private int either(String text, int open) {
    int at = lastOf(text, "|");
    if (at < 0) return both(text, open);
    return (either(text.substring(0, at), open) != 0 | both(text.substring(at + 1), open) != 0) ? 1 : 0;
  }

  private int both(String text, int open) {
    int at = lastOf(text, "&");
    if (at < 0) return compared(text, open);
    return (both(text.substring(0, at), open) != 0 & compared(text.substring(at + 1), open) != 0) ? 1 : 0;
  }

  private int compared(String text, int open) {
    int at = lastOf(text, "<=>");
    if (at < 0) return sum(text, open);
    int order = Integer.compare(sum(text.substring(0, at), open), sum(text.substring(at + 1), open));
    return "<=>".charAt(order + 1) == text.charAt(at) ? 1 : 0;
  }

  private int sum(String text, int open) {
    int at = lastOf(text, "+-");
    if (at < 0) return product(text, open);
    int before = sum(text.substring(0, at), open);
    int more = product(text.substring(at + 1), open);
    return text.charAt(at) == '+' ? before + more : before - more;
  }

  private int product(String text, int open) {
    int at = lastOf(text, "*/%");
    if (at < 0) return operand(text, open);
    int a = product(text.substring(0, at), open);
    int b = operand(text.substring(at + 1), open);
    if (text.charAt(at) == '*') return a * b;
    if (b == 0) return 0;
    return text.charAt(at) == '/' ? a / b : a % b;
  }

  private int operand(String text, int open) {
    if (text.matches("[0-9]{1,4}")) return Integer.parseInt(text);
    if (text.length() == 1 && NAMES.contains(text)) return values[NAMES.indexOf(text)];
    boolean opens = !text.isEmpty() && "(!-".indexOf(text.charAt(0)) >= 0;
    if (!opens || open == 6) {
      wrong = true;
      return 0;
    }
    if (text.charAt(0) == '!') return operand(text.substring(1), open + 1) == 0 ? 1 : 0;
    if (text.charAt(0) == '-') return -operand(text.substring(1), open + 1);
    if (!text.endsWith(")")) wrong = true;
    return wrong ? 0 : either(text.substring(1, text.length() - 1), open + 1);
  }

  /** The last of these signs outside brackets that stands behind an operand. */
  private static int lastOf(String text, String signs) {
    int depth = 0;
    for (int i = text.length() - 1; i > 0; i--) {
      if (text.charAt(i) == ')') depth++;
      if (text.charAt(i) == '(') depth--;
      boolean behindOperand = OPERAND_ENDS.indexOf(text.charAt(i - 1)) >= 0;
      if (depth == 0 && behindOperand && signs.indexOf(text.charAt(i)) >= 0) return i;
    }
    return -1;
  }
}
