/** What README.md shows, with the answers that it tells. */
public final class ReadmeTest {
  private static final Checks CHECKS = new Checks();

  public static void main(String[] args) {
    GladSide lane = new GladSide();
    int one = lane.person(0);
    int joy = lane.joy(one, 3);
    CHECKS.due("mend", lane.mend(joy, 4, 9), 5);
    CHECKS.due("lane", lane.lane(20, 6), 9);
    CHECKS.due("when", lane.when(joy, 0), 5);
    CHECKS.due("day", lane.day(), 0);
    CHECKS.due("law", Lanes.told(lane, "k=2?9;w+o-2*g"), 1);
    CHECKS.due("smell", lane.smell(joy, 3), 7);
    CHECKS.due("row", lane.row(0, 0, 5), 1);
    CHECKS.due("put", lane.put(0, 3, 1), 1);
    CHECKS.due("judge", lane.judge(0, one), GladSide.NOT);
    CHECKS.end("ReadmeTest");
  }
}
