/** Lanes as the tests begin with them. */
final class Lanes {
  private Lanes() {
  }

  static GladSide living(int... houses) {
    GladSide x = new GladSide();
    for (int house : houses) x.person(house);
    return x;
  }

  /** So many people on side 0, ahead of so many on side 1. */
  static GladSide sides(int even, int odd) {
    GladSide x = new GladSide();
    for (int i = 0; i < even; i++) x.person(2 * (i % 6));
    for (int i = 0; i < odd; i++) x.person(2 * (i % 6) + 1);
    return x;
  }

  /** A joy that runs now: of one, with that worth. */
  static int running(GladSide x, int of, int worth) {
    int joy = x.joy(of, 0);
    x.mend(joy, 6, 1);
    x.mend(joy, 4, worth);
    return joy;
  }

  /** A row of these bytes comes to a shelf. */
  static void lay(GladSide x, int shelf, int... bytes) {
    x.row(shelf, 0, bytes.length);
    for (int i = 0; i < bytes.length; i++) x.put(shelf, i, bytes[i]);
  }

  /** What law() answers to the text. */
  static int told(GladSide x, String text) {
    for (int i = 0; i < text.length(); i++) x.feed(text.charAt(i));
    return x.law();
  }
}
