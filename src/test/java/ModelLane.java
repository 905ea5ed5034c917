import java.util.ArrayList;
import java.util.List;

/** The lane by the document's words alone, as plainly as may be; thought is a copy that lives on. */
final class ModelLane {
  static final class Joy {
    int of;
    int due;
    int lasts = 2;
    int late = 9;
    int worth = 5;
    int kind;
    int ran;
    int lost;

    Joy copied() {
      Joy copy = new Joy();
      copy.of = of;
      copy.due = due;
      copy.lasts = lasts;
      copy.late = late;
      copy.worth = worth;
      copy.kind = kind;
      copy.ran = ran;
      copy.lost = lost;
      return copy;
    }

    boolean runs() {
      return lost == 0 && ran > 0 && ran < lasts;
    }

    boolean had() {
      return lost == 0 && ran >= lasts;
    }
  }

  final List<Integer> houses = new ArrayList<>();
  final List<Joy> joys = new ArrayList<>();
  int[] led = new int[6];
  int gladSide;
  int year = 12;
  int nose = 5;
  int day;

  ModelLane copied() {
    ModelLane copy = new ModelLane();
    copy.houses.addAll(houses);
    for (Joy joy : joys) copy.joys.add(joy.copied());
    copy.led = led.clone();
    copy.gladSide = gladSide;
    copy.year = year;
    copy.nose = nose;
    copy.day = day;
    return copy;
  }

  ModelLane behind(int n) {
    ModelLane then = copied();
    for (int i = 0; i < n; i++) then.pass();
    return then;
  }

  void layBack(ModelLane image) {
    for (int one = 0; one < image.houses.size(); one++) houses.set(one, image.houses.get(one));
    for (int i = 0; i < image.joys.size(); i++) {
      joys.get(i).ran = image.joys.get(i).ran;
      joys.get(i).lost = image.joys.get(i).lost;
    }
    gladSide = image.gladSide;
    day = image.day;
    led = image.led.clone();
  }

  int houseOf(Joy joy) {
    return houses.get(joy.of);
  }

  boolean onGladSide(Joy joy) {
    return houseOf(joy) % 2 == gladSide;
  }

  boolean waits(Joy joy) {
    return joy.lost == 0 && joy.ran == 0 && day >= joy.due;
  }

  int votesFor(int side) {
    return (int) houses.stream().filter(house -> house % 2 == side).count();
  }

  void pass() {
    if (day > 0 && day % year == 0) vote();
    for (Joy joy : joys) {
      boolean waited = waits(joy);
      boolean had = joy.had();
      if (joy.runs() && onGladSide(joy)) joy.ran++;
      if (waited && onGladSide(joy)) joy.ran = 1;
      if (waited && !onGladSide(joy) && day >= joy.due + joy.late) joy.lost = 1;
      if (joy.had() && !had) led[5]++;
    }
    day = Math.min(199, day + 1);
    led[1]++;
  }

  private void vote() {
    led[2]++;
    int was = gladSide;
    if (votesFor(0) > votesFor(1)) gladSide = 0;
    if (votesFor(1) > votesFor(0)) gladSide = 1;
    if (gladSide != was) led[3]++;
  }

  /** The sets of lane() by what. */
  int set(int what) {
    int bits = 0;
    for (int i = 0; i < joys.size(); i++) {
      Joy joy = joys.get(i);
      boolean in = what == 0 ? waits(joy) : what == 1 ? joy.runs() : what == 2 ? joy.had() : joy.lost == 1;
      if (in) bits |= 1 << i;
    }
    return bits;
  }

  int glad() {
    int bits = 0;
    for (Joy joy : joys) {
      if (joy.runs() && onGladSide(joy)) bits |= 1 << joy.of;
    }
    return bits;
  }

  int worth(int what) {
    int sum = 0;
    for (int i = 0; i < joys.size(); i++) sum += (set(what) >> i & 1) * joys.get(i).worth;
    return sum;
  }

  int othersRunning(Joy joy) {
    return (int) joys.stream().filter(other -> other != joy && other.runs() && houseOf(other) == houseOf(joy)).count();
  }

  /** By a law's text, or without one by null. */
  int smell(Joy joy, int house, String law) {
    int apart = Math.abs(house / 2 - houseOf(joy) / 2);
    int much = joy.worth + othersRunning(joy) - 2 * apart;
    if (law != null) {
      much = new ModelLaw(joy.worth, apart, joy.lasts, othersRunning(joy), joy.kind, day).worth(law);
    }
    return Math.max(0, Math.min(9, much));
  }

  int smelt(Joy joy, String law) {
    int bits = 0;
    for (int house = 0; house < 12; house++) {
      boolean across = house % 2 != houseOf(joy) % 2;
      if (across && joy.runs() && smell(joy, house, law) >= nose) bits |= 1 << house;
    }
    return bits;
  }
}
