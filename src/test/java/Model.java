import java.util.ArrayList;
import java.util.List;

/** A second GladSide from the document's words: slow, and by Java's own library. */
final class Model {
  private record Change(int number, int what, int was, int v) {
  }

  private static final int[] LEAST = {0, 0, 1, 0, 0, 0, 0, 0, 0, 2, 1, 0};
  private static final int[] MOST = {11, 99, 9, 40, 9, 3, 9, 1, 1, 30, 9, 199};
  private final ModelLane lane = new ModelLane();
  private final ModelShelves rows = new ModelShelves();
  private final List<Change> undone = new ArrayList<>();
  private final List<Change> done = new ArrayList<>();
  private final List<BodiesByJava> bodies = new ArrayList<>();
  private final List<Integer> kinds = new ArrayList<>();
  private List<Integer> trace = new ArrayList<>();
  private String tape = "";
  private String law;
  private ModelLane image;

  private boolean isPerson(int one) {
    return one >= 0 && one < lane.houses.size();
  }

  private boolean isJoy(int joy) {
    return joy >= 0 && joy < lane.joys.size();
  }

  private static boolean in(int v, int least, int most) {
    return least <= v && v <= most;
  }

  int person(int house) {
    if (!in(house, 0, 11)) return -1;
    if (lane.houses.size() == 7) return -3;
    lane.houses.add(house);
    return lane.houses.size() - 1;
  }

  int joy(int of, int due) {
    if (!isPerson(of) || !in(due, 0, 99)) return -1;
    if (lane.joys.size() == 10) return -3;
    ModelLane.Joy joy = new ModelLane.Joy();
    joy.of = of;
    joy.due = due;
    lane.joys.add(joy);
    return lane.joys.size() - 1;
  }

  int joys(int shelf, int i, int n) {
    if (!in(n, 1, 10)) return -1;
    int refusal = rows.refuseBytes(shelf);
    if (refusal != 0) return refusal == -11 ? 0 : refusal;
    byte[] row = rows.bytes(shelf);
    int came = 0;
    for (long at = i; came < n && at >= 0 && at + 2 < row.length; at += 3, came++) {
      int worth = row[(int) at + 2];
      if (!in(worth, 0, 9)) break;
      int joy = joy(row[(int) at], row[(int) at + 1]);
      if (joy < 0) break;
      lane.joys.get(joy).worth = worth;
    }
    return came;
  }

  int mend(int number, int what, int v) {
    int was = what == 12 ? -1 : of(number, what);
    if (was == -1 || !in(v, LEAST[what], MOST[what])) return -1;
    if (was == v) return was;
    done.add(new Change(number, what, was, v));
    if (done.size() > 40) done.remove(0);
    undone.clear();
    tell(number, what, v);
    return was;
  }

  private void tell(int number, int what, int v) {
    if (what == 0) lane.houses.set(number, v);
    else if (what < 8) tellJoy(lane.joys.get(number), what, v);
    else if (what == 8) lane.gladSide = v;
    else if (what == 9) lane.year = v;
    else if (what == 10) lane.nose = v;
    else lane.day = v;
  }

  private static void tellJoy(ModelLane.Joy joy, int what, int v) {
    if (what == 1) joy.due = v;
    if (what == 2) joy.lasts = v;
    if (what == 3) joy.late = v;
    if (what == 4) joy.worth = v;
    if (what == 5) joy.kind = v;
    if (what == 6) joy.ran = v;
    if (what == 7) joy.lost = v;
  }

  int of(int number, int what) {
    if (!in(what, 0, 12)) return -1;
    if (what == 0) return isPerson(number) ? lane.houses.get(number) : -1;
    if (in(what, 8, 11)) return number == 0 ? new int[] {lane.gladSide, lane.year, lane.nose, lane.day}[what - 8] : -1;
    if (!isJoy(number)) return -1;
    ModelLane.Joy joy = lane.joys.get(number);
    return new int[] {0, joy.due, joy.lasts, joy.late, joy.worth, joy.kind, joy.ran, joy.lost, 0, 0, 0, 0, joy.of}[what];
  }

  int feed(int letter) {
    if (!in(letter, 0, 255)) return -1;
    if (tape.length() == 120) return -3;
    tape += (char) letter;
    return tape.length();
  }

  int law() {
    int fault = ModelLaw.fault(tape);
    if (fault < 0) law = tape;
    tape = "";
    return fault < 0 ? 1 : -100 - fault;
  }

  int smell(int joy, int house) {
    if (!isJoy(joy) || !in(house, 0, 11)) return -1;
    if (lane.houseOf(lane.joys.get(joy)) % 2 == house % 2) return -1;
    return lane.smell(lane.joys.get(joy), house, law);
  }

  int smelt(int joy) {
    return isJoy(joy) ? lane.smelt(lane.joys.get(joy), law) : -1;
  }

  int shut(int what) {
    if (!in(what, 0, 1)) return -1;
    int[] smelt = new int[lane.joys.size()];
    for (int joy = 0; joy < smelt.length; joy++) smelt[joy] = smelt(joy);
    int best = 4095;
    for (int bits = 4095; bits >= 0; bits--) {
      boolean none = true;
      for (int joy = 0; joy < smelt.length; joy++) {
        none &= (bits >> lane.houseOf(lane.joys.get(joy)) & 1) == 1 || (bits | smelt[joy]) == bits;
      }
      if (none && Integer.bitCount(bits) <= Integer.bitCount(best)) best = bits;
    }
    return what == 0 ? Integer.bitCount(best) : best;
  }

  int lane(int n, int what) {
    if (!in(n, 0, 60) || !in(what, 0, 8)) return -1;
    ModelLane then = lane.behind(n);
    if (what < 4) return then.set(what);
    if (what == 4) return then.glad();
    if (what == 5) return then.gladSide;
    return what == 8 ? then.led[3] - lane.led[3] : then.worth(what - 4);
  }

  int when(int joy, int what) {
    if (!isJoy(joy) || !in(what, 0, 1)) return -1;
    for (int n = 0; n <= 60; n++) {
      if ((lane(n, 2 + what) >> joy & 1) == 1) return n;
    }
    return -2;
  }

  int move(int n, int what) {
    if (!in(n, 0, 40) || !in(what, 0, 1)) return -1;
    int most = lane(n, 6);
    int which = 99;
    for (int one = 0; one < lane.houses.size(); one++) {
      for (int house = 0; house < 12; house++) {
        ModelLane other = lane.copied();
        other.houses.set(one, house);
        int worth = other.behind(n).worth(2);
        if (worth > most) which = 12 * one + house;
        most = Math.max(most, worth);
      }
    }
    return what == 0 ? most : which;
  }

  int over(int v) {
    if (!in(v, 0, 1)) return -1;
    int fewest = -2;
    for (int set = 0; set < 1 << lane.houses.size(); set++) {
      ModelLane other = lane.copied();
      for (int one = 0; one < lane.houses.size(); one++) other.houses.set(one, lane.houses.get(one) ^ (set >> one & 1));
      int more = other.votesFor(v) - other.votesFor(1 - v);
      boolean so = more > 0 || more == 0 && lane.gladSide == v;
      if (so && (fewest < 0 || Integer.bitCount(set) < fewest)) fewest = Integer.bitCount(set);
    }
    return fewest;
  }

  int date(int joy, int n, int what) {
    if (!isJoy(joy) || !in(n, 0, 60) || !in(what, 0, 1)) return -1;
    int[] worth = new int[100];
    int best = 0;
    for (int due = 0; due < 100; due++) {
      ModelLane other = lane.copied();
      other.joys.get(joy).due = due;
      worth[due] = other.behind(n).worth(2);
      if (worth[due] > worth[best]) best = due;
    }
    return what == 0 ? best : worth[best];
  }

  private static int judged(ModelLane from, byte[] row, int one) {
    ModelLane then = from.copied();
    for (int i = 0; i < row.length && i < 41; i++) {
      if (row[i] != 9 && row[i] != (then.glad() >> one & 1)) return i;
      then.pass();
    }
    return -2;
  }

  int judge(int shelf, int one) {
    if (!isPerson(one) || !ModelShelves.isShelf(shelf)) return -1;
    int refusal = rows.refuseBytes(shelf);
    return refusal != 0 ? refusal : judged(lane, rows.bytes(shelf), one);
  }

  int fits(int shelf, int oj, int what) {
    if (!ModelShelves.isShelf(shelf) || oj < 0 || !in(what, 0, 3)) return -1;
    if (!isPerson(oj / 10) || !isJoy(oj % 10)) return -1;
    int refusal = rows.refuseBytes(shelf);
    if (refusal != 0) return refusal;
    List<Integer> fit = new ArrayList<>();
    for (int v = 0; v <= (what < 2 ? 99 : 40); v++) {
      ModelLane other = lane.copied();
      tellJoy(other.joys.get(oj % 10), what < 2 ? 1 : 3, v);
      if (judged(other, rows.bytes(shelf), oj / 10) == -2) fit.add(v);
    }
    if (what == 0 || what == 2) return fit.size();
    return fit.isEmpty() ? -2 : fit.get(0);
  }

  int who(int shelf) {
    int refusal = rows.refuseBytes(shelf);
    if (refusal != 0) return refusal;
    int bits = 0;
    for (int one = 0; one < lane.houses.size(); one++) bits |= judge(shelf, one) == -2 ? 1 << one : 0;
    return bits;
  }

  int share(int one, int v) {
    if (!isPerson(one) || !in(v, 0, 9999)) return -1;
    int his = lane.joys.stream().filter(joy -> joy.of == one && joy.had()).mapToInt(joy -> joy.worth).sum();
    return lane.worth(2) == 0 ? 0 : v * his / lane.worth(2);
  }

  int near(int one) {
    if (!isPerson(one)) return -1;
    int house = lane.houses.get(one);
    return lane.houses.stream().filter(other -> other % 2 != house % 2)
      .mapToInt(other -> Math.abs(other / 2 - house / 2)).min().orElse(-2);
  }

  int mates(int x) {
    return in(x, 0, 5) ? pairs(x, new ArrayList<>(lane.houses)) : -1;
  }

  private static int pairs(int x, List<Integer> left) {
    if (left.isEmpty()) return 0;
    int one = left.remove(0);
    int most = pairs(x, new ArrayList<>(left));
    for (int other : left) {
      if (other % 2 == one % 2 || Math.abs(other / 2 - one / 2) > x) continue;
      List<Integer> rest = new ArrayList<>(left);
      rest.remove((Integer) other);
      most = Math.max(most, 1 + pairs(x, rest));
    }
    return most;
  }

  int byTurns(int n, int what) {
    if (!in(n, 1, 4) || !in(what, 0, 1)) return -2000000000;
    int[] best = played(lane.copied(), 0, n);
    return best[what];
  }

  /** How many more, and whom to move first. */
  private static int[] played(ModelLane then, int time, int n) {
    if (time == n) return new int[] {then.votesFor(0) - then.votesFor(1), 9};
    int[] best = {played(then, time + 1, n)[0], 9};
    for (int one = 0; one < then.houses.size(); one++) {
      then.houses.set(one, then.houses.get(one) ^ 1);
      int more = played(then, time + 1, n)[0];
      then.houses.set(one, then.houses.get(one) ^ 1);
      if (time % 2 == 0 ? more > best[0] : more < best[0]) best = new int[] {more, one};
    }
    return best;
  }

  int drawn(int seed, int nmk, int joy) {
    int n = nmk / 10000;
    int m = nmk % 10000 / 100;
    int moves = nmk % 100;
    if (!in(n, 1, 30) || !in(m, 1, 40) || !in(moves, 0, 12) || joy != -1 && !isJoy(joy)) return -1;
    int z = seed;
    int all = 0;
    for (int i = 0; i < n; i++) {
      ModelLane then = lane.copied();
      for (int k = 0; k < m; k++) {
        z = z * 1103515245 + 12345;
        int people = then.houses.size();
        if (people > 0 && (z >>> 24) % 12 < moves) then.houses.set((z >>> 8) % people, (z >>> 16) % 12);
        then.pass();
      }
      all += joy == -1 ? then.worth(2) : then.set(2) >> joy & 1;
    }
    return all;
  }

  int moves(int one, int house) {
    if (!isPerson(one) || !in(house, 0, 11)) return -1;
    lane.led[0]++;
    return lane.houses.set(one, house);
  }

  int day() {
    lane.pass();
    return lane.glad();
  }

  int inspect() {
    int fined = 0;
    for (int joy = 0; joy < lane.joys.size(); joy++) {
      int smelt = smelt(joy);
      if (lane.houses.stream().anyMatch(house -> (smelt >> house & 1) == 1)) fined++;
    }
    lane.led[4] += fined;
    return fined;
  }

  int led(int what) {
    return in(what, 0, 5) ? lane.led[what] : -1;
  }

  int image() {
    image = lane.copied();
    return lane.led[1];
  }

  int back() {
    if (image == null) return -5;
    lane.layBack(image);
    return lane.led[1];
  }

  int undo() {
    if (done.isEmpty()) return -5;
    Change last = done.remove(done.size() - 1);
    undone.add(0, last);
    tell(last.number, last.what, last.was);
    return done.size();
  }

  int redo() {
    if (undone.isEmpty()) return -5;
    Change next = undone.remove(0);
    done.add(next);
    tell(next.number, next.what, next.v);
    return undone.size();
  }

  int body(int kind) {
    if (!in(kind, 0, 7)) return -1;
    if (bodies.size() == 50) return -3;
    bodies.add(BodiesByJava.ofKind(kind, bodies.size()));
    kinds.add(kind);
    return bodies.size() - 1;
  }

  int act(int body, int act, int x) {
    trace = new ArrayList<>();
    if (!in(body, 0, bodies.size() - 1) || !in(act, 0, 3)) return 0;
    int answer = bodies.get(body).perform(act, x);
    trace = bodies.get(body).ran;
    return answer;
  }

  int trace(int i) {
    return in(i, 0, Math.min(24, trace.size()) - 1) ? trace.get(i) : -1;
  }

  int keep(int shelf, int body) {
    if (!ModelShelves.isShelf(shelf) || !in(body, -1, bodies.size() - 1)) return -1;
    rows.shelves[shelf] = body < 0 ? null : bodies.get(body);
    return 1;
  }

  int row(int shelf, int sort, int n) {
    return rows.row(shelf, sort, n);
  }

  int put(int shelf, int i, long v) {
    return rows.put(shelf, i, v);
  }

  long element(int shelf, int i) {
    return rows.element(shelf, i);
  }

  int shift(int shelf, int i, int other, int j, int n) {
    return rows.shift(shelf, i, other, j, n);
  }

  int taken(int shelf, int k) {
    if (!ModelShelves.isShelf(shelf) || !in(k, 0, 7)) return -1;
    if (rows.shelves[shelf] == null) return -11;
    Class<?> wanted = BodiesByJava.ofKind(k, 0).getClass();
    return wanted.isInstance(rows.shelves[shelf]) ? kinds.get(((BodiesByJava) rows.shelves[shelf]).n) : -12;
  }

  int count(int what) {
    if (!in(what, 0, 5)) return -1;
    int[] counts = {lane.houses.size(), lane.joys.size(), tape.length(), done.size(), bodies.size(), trace.size()};
    return counts[what];
  }
}
