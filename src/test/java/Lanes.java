/** Lanes as the tests begin with them. */
final class Lanes {
  private Lanes() {
  }

  static GladSide living(int... houses) {
    GladSide x = new GladSide();
    for (int house : houses) x.person(house);
    return x;
  }

  /** What law() answers to the text. */
  static int told(GladSide x, String text) {
    for (int i = 0; i < text.length(); i++) x.feed(text.charAt(i));
    return x.law();
  }
}
