/** Counts the answers that are not as due; a test ends by end(). */
final class Checks {
  private int asked;
  private int wrong;

  void due(String call, long got, long want) {
    asked++;
    if (got == want) return;
    wrong++;
    if (wrong <= 40) System.out.println(call + " answered " + got + ", due is " + want);
  }

  void holds(String what, boolean so) {
    asked++;
    if (so) return;
    wrong++;
    if (wrong <= 40) System.out.println("does not hold: " + what);
  }

  void end(String name) {
    System.out.println(name + ": " + asked + " checks, " + wrong + " wrong");
    if (wrong != 0 || asked == 0) System.exit(1);
  }
}
