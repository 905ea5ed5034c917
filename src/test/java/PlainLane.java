import java.util.ArrayList;
import java.util.List;

/** A drawn lane that can be built anew as often as wanted, so that thought can be measured by deeds. */
final class PlainLane {
  final int people;
  final int joys;
  private final List<int[]> calls = new ArrayList<>();
  private final String law;

  PlainLane(Draws draws) {
    people = draws.below(8);
    joys = people == 0 ? 0 : draws.below(11);
    for (int i = 0; i < people; i++) calls.add(new int[] {0, draws.below(12)});
    for (int i = 0; i < joys; i++) calls.add(new int[] {1, draws.below(people), draws.below(draws.oneIn(3) ? 100 : 20)});
    for (int i = 0; i < joys; i++) {
      if (draws.oneIn(2)) tell(i, 2, 1 + draws.below(9));
      if (draws.oneIn(2)) tell(i, 3, draws.below(draws.oneIn(2) ? 41 : 6));
      tell(i, 4, draws.below(10));
      tell(i, 5, draws.below(4));
      if (draws.oneIn(3)) tell(i, 6, draws.below(6));
      if (draws.oneIn(9)) tell(i, 7, 1);
    }
    tell(0, 8, draws.below(2));
    tell(0, 9, 2 + draws.below(draws.oneIn(2) ? 29 : 8));
    tell(0, 10, 1 + draws.below(9));
    if (draws.oneIn(2)) tell(0, 11, draws.oneIn(6) ? 180 + draws.below(20) : draws.below(30));
    String[] laws = {"", "", "w-g", "o*3+l;1", "k>1?w;9-2*g", "y%7-g?9;w*o", "g<3"};
    law = laws[draws.below(laws.length)];
  }

  private void tell(int number, int what, int v) {
    calls.add(new int[] {2, number, what, v});
  }

  GladSide built() {
    GladSide x = new GladSide();
    for (int[] call : calls) {
      if (call[0] == 0) x.person(call[1]);
      else if (call[0] == 1) x.joy(call[1], call[2]);
      else x.mend(call[1], call[2], call[3]);
    }
    if (!law.isEmpty()) Lanes.told(x, law);
    return x;
  }
}
