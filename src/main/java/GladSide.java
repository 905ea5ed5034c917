/** A lane on one side of which, at a time, joy may be had; ../shared/DOC.md says what each call promises. */
public final class GladSide {
  public static final int BAD = -1, NOT = -2, FULL = -3, STATE = -5, VOID = -2000000000;

  private static final int NOTHING = -11, UNLIKE = -12, NO_PLACE = -13, NO_SIZE = -14;
  private static final int MOST_PEOPLE = 7, MOST_JOYS = 10, HOUSES = 12, SIDES = 2;
  private static final int LAST_DUE = 99, LAST_LATE = 40, LAST_DAY = 199;
  private static final int FARTHEST = 60, FARTHEST_MOVE = 40, SEEN_DAYS = 41;
  private static final int MOVED = 0, DAYS = 1, VOTES = 2, TURNS = 3, FINED = 4, HAD = 5, LEDS = 6;

  private final Street street;
  private final Course now;
  private final Course kept;
  private final Numbers numbers;
  private final Changes changes;
  private final Tape tape;
  private final Law standing;
  private final Smells smells;
  private final Thought thought;
  private final Votes votes;
  private final Acts acts;
  private final Shelves shelves;
  private boolean hasImage;
  private int keptPeople;
  private int keptJoys;

  public GladSide() {
    Street lane = new Street();
    Course course = new Course(lane);
    Numbers told = new Numbers(lane, course);
    Law text = new Law();
    Shelves boards = new Shelves();
    street = lane;
    now = course;
    kept = new Course(lane);
    numbers = told;
    changes = new Changes(told);
    tape = new Tape();
    standing = text;
    smells = new Smells(lane, course, text);
    thought = new Thought(lane, course, boards);
    votes = new Votes(lane, course);
    acts = new Acts();
    shelves = boards;
  }

  // ---- people, joys

  public int person(int house) {
    if (!isWithin(house, 0, HOUSES - 1)) return BAD;
    if (street.people >= MOST_PEOPLE) return FULL;
    now.house[street.people] = house;
    return street.people++;
  }

  public int joy(int of, int due) {
    if (!street.isPerson(of) || !isWithin(due, 0, LAST_DUE)) return BAD;
    if (street.joys >= MOST_JOYS) return FULL;
    return street.addJoy(of, due);
  }

  public int joys(int shelf, int i, int n) {
    if (!isWithin(n, 1, MOST_JOYS)) return BAD;
    int refusal = shelves.refuseBytes(shelf);
    if (refusal == NOTHING) return 0;
    if (refusal != 0) return refusal;
    int came = 0;
    for (int k = 0; k < n && joyFromRow(shelf, i + 3 * k); k++) came++;
    return came;
  }

  private boolean joyFromRow(int shelf, int place) {
    if (place < 0 || place > shelves.lengthOf(shelf) - 3) return false;
    int of = (int) shelves.cell(shelf, place);
    int due = (int) shelves.cell(shelf, place + 1);
    int worth = (int) shelves.cell(shelf, place + 2);
    if (!Numbers.mayBe(Numbers.WORTH, worth)) return false;
    int came = joy(of, due);
    if (!street.isJoy(came)) return false;
    street.worth[came] = worth;
    return true;
  }

  public int mend(int number, int what, int v) {
    if (!numbers.isThere(number, what) || !Numbers.mayBe(what, v)) return BAD;
    int was = numbers.read(number, what);
    if (was != v) {
      changes.add(number, what, was, v);
      numbers.write(number, what, v);
    }
    return was;
  }

  public int of(int number, int what) {
    if (what == 12) return street.isJoy(number) ? street.of[number] : BAD;
    return numbers.isThere(number, what) ? numbers.read(number, what) : BAD;
  }

  public int feed(int letter) {
    if (!isWithin(letter, 0, 255)) return BAD;
    return tape.append(letter) ? tape.length : FULL;
  }

  public int law() {
    int answer = tape.readLaw();
    if (answer == 1) standing.take(tape.draft);
    tape.length = 0;
    return answer;
  }

  public int smell(int joy, int house) {
    if (!street.isJoy(joy) || !isWithin(house, 0, HOUSES - 1)) return BAD;
    if (house % SIDES == now.sideOfJoy(joy)) return BAD;
    return smells.howMuch(joy, house);
  }

  // ---- now, in thought

  public int smelt(int joy) {
    return street.isJoy(joy) ? smells.housesSmelling(joy) : BAD;
  }

  public int shut(int what) {
    if (!isWithin(what, 0, 1)) return BAD;
    int windows = smells.fewestShut();
    return what == 0 ? Integer.bitCount(windows) : windows;
  }

  public int lane(int n, int what) {
    if (!isWithin(n, 0, FARTHEST) || !isWithin(what, 0, 8)) return BAD;
    Course then = thought.behind(n);
    switch (what) {
      case 4: return then.gladPeople();
      case 5: return then.gladSide;
      case 6: return then.worthOfHad();
      case 7: return then.worthOfLost();
      case 8: return then.led[TURNS] - now.led[TURNS];
      default: return then.joysThat(what);
    }
  }

  public int when(int joy, int what) {
    if (!street.isJoy(joy) || !isWithin(what, 0, 1)) return BAD;
    return thought.firstDayOf(joy, what == 0 ? Course.IS_HAD : Course.IS_LOST);
  }

  public int move(int n, int what) {
    if (!isWithin(n, 0, FARTHEST_MOVE) || !isWithin(what, 0, 1)) return BAD;
    thought.seekMove(n);
    return what == 0 ? thought.most : thought.which;
  }

  public int over(int v) {
    return isWithin(v, 0, 1) ? votes.fewestToTurn(v) : BAD;
  }

  public int date(int joy, int n, int what) {
    if (!street.isJoy(joy) || !isWithin(n, 0, FARTHEST) || !isWithin(what, 0, 1)) return BAD;
    thought.seekDue(joy, n);
    return what == 0 ? thought.which : thought.most;
  }

  // ---- shutters, shares, votes

  public int judge(int shelf, int one) {
    if (!street.isPerson(one)) return BAD;
    int refusal = shelves.refuseBytes(shelf);
    return refusal != 0 ? refusal : thought.firstUnlike(shelf, one);
  }

  public int fits(int shelf, int oj, int what) {
    if (oj < 0 || !isWithin(what, 0, 3)) return BAD;
    int one = oj / 10;
    int joy = oj % 10;
    if (!street.isPerson(one) || !street.isJoy(joy)) return BAD;
    int refusal = shelves.refuseBytes(shelf);
    if (refusal != 0) return refusal;
    if (what < 2) thought.seekFits(shelf, one, joy, street.due, LAST_DUE);
    else thought.seekFits(shelf, one, joy, street.late, LAST_LATE);
    return what % 2 == 0 ? thought.most : thought.which;
  }

  public int who(int shelf) {
    int refusal = shelves.refuseBytes(shelf);
    if (refusal != 0) return refusal;
    int bits = 0;
    for (int one = 0; one < street.people; one++) {
      if (thought.firstUnlike(shelf, one) == NOT) bits |= 1 << one;
    }
    return bits;
  }

  public int share(int one, int v) {
    if (!street.isPerson(one) || !isWithin(v, 0, 9999)) return BAD;
    int all = now.worthOfHad();
    return all > 0 ? v * now.worthOfHadBy(one) / all : 0;
  }

  public int near(int one) {
    return street.isPerson(one) ? votes.nearestAcross(one) : BAD;
  }

  public int mates(int x) {
    return isWithin(x, 0, 5) ? votes.mostPairs(x) : BAD;
  }

  public int byTurns(int n, int what) {
    if (!isWithin(n, 1, 4) || !isWithin(what, 0, 1)) return VOID;
    votes.playTurns(n);
    return what == 0 ? votes.lead : votes.firstMoved;
  }

  public int drawn(int seed, int nmk, int joy) {
    int n = nmk / 10000;
    int m = nmk / 100 % 100;
    int k = nmk % 100;
    if (!isWithin(n, 1, 30) || !isWithin(m, 1, 40) || !isWithin(k, 0, 12)) return BAD;
    if (joy != -1 && !street.isJoy(joy)) return BAD;
    return thought.drawLanes(seed, n, m, k, joy);
  }

  // ---- in deed

  public int moves(int one, int house) {
    if (!street.isPerson(one) || !isWithin(house, 0, HOUSES - 1)) return BAD;
    int was = now.house[one];
    now.house[one] = house;
    now.led[MOVED]++;
    return was;
  }

  public int day() {
    now.pass();
    return now.gladPeople();
  }

  public int inspect() {
    int fined = smells.smeltWhereLived();
    now.led[FINED] += fined;
    return fined;
  }

  public int led(int what) {
    return isWithin(what, 0, LEDS - 1) ? now.led[what] : BAD;
  }

  public int image() {
    hasImage = true;
    keptPeople = street.people;
    keptJoys = street.joys;
    kept.take(now, keptPeople, keptJoys);
    return now.led[DAYS];
  }

  public int back() {
    if (!hasImage) return STATE;
    now.take(kept, keptPeople, keptJoys);
    return now.led[DAYS];
  }

  public int undo() {
    return changes.takeBack() ? changes.done : STATE;
  }

  public int redo() {
    return changes.doAgain() ? changes.known - changes.done : STATE;
  }

  // ---- acts, shelves

  public int body(int kind) {
    if (!isWithin(kind, 0, Acts.KINDS - 1)) return BAD;
    return acts.add(kind);
  }

  public int act(int body, int act, int x) {
    return acts.perform(body, act, x);
  }

  public int trace(int i) {
    return i >= 0 && i < acts.traced() ? acts.trail[i] : BAD;
  }

  public int keep(int shelf, int body) {
    if (!Shelves.isShelf(shelf)) return BAD;
    if (body == -1) shelves.empty(shelf);
    else if (acts.isBody(body)) shelves.layBody(shelf, body);
    else return BAD;
    return 1;
  }

  public int row(int shelf, int sort, int n) {
    if (!Shelves.isShelf(shelf) || !isWithin(sort, 0, Shelves.SORTS - 1) || n > Shelves.LONGEST) return BAD;
    if (n < 0) return NO_SIZE;
    shelves.layRow(shelf, sort, n);
    return 1;
  }

  public int put(int shelf, int i, long v) {
    int refusal = shelves.refusePlace(shelf, i);
    if (refusal != 0) return refusal;
    shelves.setCell(shelf, i, v);
    return 1;
  }

  public long element(int shelf, int i) {
    return shelves.refusePlace(shelf, i) != 0 ? Long.MIN_VALUE : shelves.cell(shelf, i);
  }

  public int shift(int shelf, int i, int other, int j, int n) {
    int refusal = shelves.refusePair(shelf, other);
    if (refusal != 0) return refusal;
    if (!shelves.hasRun(shelf, i, n) || !shelves.hasRun(other, j, n)) return NO_PLACE;
    shelves.copyRun(shelf, i, other, j, n);
    return n;
  }

  public int taken(int shelf, int k) {
    if (!Shelves.isShelf(shelf) || !isWithin(k, 0, Acts.KINDS - 1)) return BAD;
    if (shelves.isEmpty(shelf)) return NOTHING;
    int body = shelves.bodyOn(shelf);
    return acts.isBody(body) && Acts.isUnder(acts.kinds[body], k) ? acts.kinds[body] : UNLIKE;
  }

  public int count(int what) {
    switch (what) {
      case 0: return street.people;
      case 1: return street.joys;
      case 2: return tape.length;
      case 3: return changes.done;
      case 4: return acts.bodies;
      case 5: return acts.ran;
      default: return BAD;
    }
  }

  private static boolean isWithin(int v, int least, int most) {
    return v >= least && v <= most;
  }

  private static int placesApart(int house, int other) {
    return Math.abs(house / SIDES - other / SIDES);
  }

  /** What is told of the lane and its joys; days never change it. */
  private static final class Street {
    final int[] of = new int[MOST_JOYS];
    final int[] due = new int[MOST_JOYS];
    final int[] lasts = new int[MOST_JOYS];
    final int[] late = new int[MOST_JOYS];
    final int[] worth = new int[MOST_JOYS];
    final int[] kind = new int[MOST_JOYS];
    int people;
    int joys;
    int year = 12;
    int nose = 5;

    boolean isPerson(int one) {
      return one >= 0 && one < people && one < MOST_PEOPLE;
    }

    boolean isJoy(int joy) {
      return joy >= 0 && joy < joys && joy < MOST_JOYS;
    }

    int addJoy(int owner, int day) {
      if (joys >= MOST_JOYS) return FULL;
      of[joys] = owner;
      due[joys] = day;
      lasts[joys] = 2;
      late[joys] = 9;
      worth[joys] = 5;
      return joys++;
    }
  }

  /** What days and deeds change: the lane as it stands, stood, or would stand. */
  private static final class Course {
    static final int IS_HAD = 2, IS_LOST = 3;
    final int[] house = new int[MOST_PEOPLE];
    final int[] ran = new int[MOST_JOYS];
    final int[] lost = new int[MOST_JOYS];
    final int[] led = new int[LEDS];
    int gladSide;
    int today;
    private final Street street;

    Course(Street street) {
      this.street = street;
    }

    /** People and joys from the told counts on stay as they are here. */
    void take(Course from, int people, int joys) {
      System.arraycopy(from.house, 0, house, 0, Math.max(0, Math.min(people, MOST_PEOPLE)));
      System.arraycopy(from.ran, 0, ran, 0, Math.max(0, Math.min(joys, MOST_JOYS)));
      System.arraycopy(from.lost, 0, lost, 0, Math.max(0, Math.min(joys, MOST_JOYS)));
      System.arraycopy(from.led, 0, led, 0, LEDS);
      gladSide = from.gladSide;
      today = from.today;
    }

    int houseOfJoy(int joy) {
      int one = street.of[joy];
      return one >= 0 && one < MOST_PEOPLE ? house[one] : 0;
    }

    int sideOfJoy(int joy) {
      return houseOfJoy(joy) % SIDES;
    }

    boolean runs(int joy) {
      return lost[joy] == 0 && ran[joy] > 0 && ran[joy] < street.lasts[joy];
    }

    boolean waits(int joy) {
      return lost[joy] == 0 && ran[joy] == 0 && today >= street.due[joy];
    }

    boolean had(int joy) {
      return lost[joy] == 0 && ran[joy] >= street.lasts[joy];
    }

    /** The states by their numbers in lane(): waits, runs, had, lost. */
    boolean isIn(int joy, int state) {
      switch (state) {
        case 0: return waits(joy);
        case 1: return runs(joy);
        case IS_HAD: return had(joy);
        default: return lost[joy] != 0;
      }
    }

    int joysThat(int state) {
      int bits = 0;
      for (int joy = 0; joy < street.joys; joy++) {
        if (isIn(joy, state)) bits |= 1 << joy;
      }
      return bits;
    }

    boolean isGlad(int one) {
      if (house[one] % SIDES != gladSide) return false;
      for (int joy = 0; joy < street.joys; joy++) {
        if (street.of[joy] == one && runs(joy)) return true;
      }
      return false;
    }

    int gladPeople() {
      int bits = 0;
      for (int one = 0; one < street.people; one++) {
        if (isGlad(one)) bits |= 1 << one;
      }
      return bits;
    }

    int worthOfHad() {
      int sum = 0;
      for (int joy = 0; joy < street.joys; joy++) {
        if (had(joy)) sum += street.worth[joy];
      }
      return sum;
    }

    int worthOfHadBy(int one) {
      int sum = 0;
      for (int joy = 0; joy < street.joys; joy++) {
        if (street.of[joy] == one && had(joy)) sum += street.worth[joy];
      }
      return sum;
    }

    int worthOfLost() {
      int sum = 0;
      for (int joy = 0; joy < street.joys; joy++) {
        if (lost[joy] != 0) sum += street.worth[joy];
      }
      return sum;
    }

    /** How many more are for side 0 than for side 1. */
    int leadOfSide0() {
      int lead = 0;
      for (int one = 0; one < street.people; one++) lead += house[one] % SIDES == 0 ? 1 : -1;
      return lead;
    }

    void pass() {
      if (today > 0 && street.year > 0 && today % street.year == 0) holdVote();
      for (int joy = 0; joy < street.joys; joy++) passFor(joy);
      if (today < LAST_DAY) today++;
      led[DAYS]++;
    }

    private void holdVote() {
      int lead = leadOfSide0();
      int chosen = lead == 0 ? gladSide : lead > 0 ? 0 : 1;
      if (chosen != gladSide) led[TURNS]++;
      gladSide = chosen;
      led[VOTES]++;
    }

    private void passFor(int joy) {
      boolean onGladSide = sideOfJoy(joy) == gladSide;
      if (runs(joy)) {
        if (onGladSide) runOn(joy);
      } else if (waits(joy)) {
        if (onGladSide) runOn(joy);
        else if (today >= street.due[joy] + street.late[joy]) lost[joy] = 1;
      }
    }

    private void runOn(int joy) {
      ran[joy]++;
      if (had(joy)) led[HAD]++;
    }
  }

  /** The numbers that mend() and of() name, wherever they are held. */
  private static final class Numbers {
    static final int WORTH = 4;
    private static final int[] LEAST = {0, 0, 1, 0, 0, 0, 0, 0, 0, 2, 1, 0};
    private static final int[] MOST = {11, LAST_DUE, 9, LAST_LATE, 9, 3, 9, 1, 1, 30, 9, LAST_DAY};
    private final Street street;
    private final Course now;

    Numbers(Street street, Course now) {
      this.street = street;
      this.now = now;
    }

    static boolean mayBe(int what, int v) {
      return what >= 0 && what < LEAST.length && what < MOST.length && v >= LEAST[what] && v <= MOST[what];
    }

    boolean isThere(int number, int what) {
      if (what < 0 || what > 11) return false;
      if (what == 0) return street.isPerson(number);
      return what < 8 ? street.isJoy(number) : number == 0;
    }

    int read(int number, int what) {
      switch (what) {
        case 8: return now.gladSide;
        case 9: return street.year;
        case 10: return street.nose;
        case 11: return now.today;
        default: return isThere(number, what) ? listOf(what)[number] : 0;
      }
    }

    void write(int number, int what, int v) {
      switch (what) {
        case 8: now.gladSide = v; break;
        case 9: street.year = v; break;
        case 10: street.nose = v; break;
        case 11: now.today = v; break;
        default: if (isThere(number, what)) listOf(what)[number] = v;
      }
    }

    private int[] listOf(int what) {
      switch (what) {
        case 0: return now.house;
        case 1: return street.due;
        case 2: return street.lasts;
        case 3: return street.late;
        case WORTH: return street.worth;
        case 5: return street.kind;
        case 6: return now.ran;
        default: return now.lost;
      }
    }
  }

  /** The changes that may be undone, and behind them those that may be done again. */
  private static final class Changes {
    private static final int MOST = 40;
    private final int[] number = new int[MOST];
    private final int[] what = new int[MOST];
    private final int[] was = new int[MOST];
    private final int[] became = new int[MOST];
    private final Numbers numbers;
    int done;
    int known;

    Changes(Numbers numbers) {
      this.numbers = numbers;
    }

    void add(int ofNumber, int ofWhat, int from, int to) {
      if (done >= MOST) forgetOldest();
      number[done] = ofNumber;
      what[done] = ofWhat;
      was[done] = from;
      became[done] = to;
      done++;
      known = done;
    }

    private void forgetOldest() {
      System.arraycopy(number, 1, number, 0, MOST - 1);
      System.arraycopy(what, 1, what, 0, MOST - 1);
      System.arraycopy(was, 1, was, 0, MOST - 1);
      System.arraycopy(became, 1, became, 0, MOST - 1);
      done = MOST - 1;
    }

    boolean takeBack() {
      if (done <= 0) return false;
      done--;
      numbers.write(number[done], what[done], was[done]);
      return true;
    }

    boolean doAgain() {
      if (done >= known || done >= MOST) return false;
      numbers.write(number[done], what[done], became[done]);
      done++;
      return true;
    }
  }

  /** A law's text, worked over once into steps that a stack can follow. */
  private static final class Law {
    static final int NUMBER = '#', NAME = '$', NEGATIVE = '~', TEST = '?', LINE_END = ';';
    static final int NAMES = 6;
    private static final int ROOM = 128;
    final int[] names = new int[NAMES];
    private final int[] step = new int[ROOM];
    private final int[] tells = new int[ROOM];
    private final int[] stack = new int[ROOM];
    private int steps;

    void clear() {
      steps = 0;
    }

    boolean isTold() {
      return steps > 0;
    }

    void take(Law from) {
      System.arraycopy(from.step, 0, step, 0, ROOM);
      System.arraycopy(from.tells, 0, tells, 0, ROOM);
      steps = from.steps;
    }

    /** The place of the step that was added. */
    int add(int sign, int number) {
      if (steps >= ROOM) return ROOM - 1;
      step[steps] = sign;
      tells[steps] = number;
      return steps++;
    }

    /** A test that fails goes on behind the latest step. */
    void aimTest(int test) {
      if (test >= 0 && test < steps) tells[test] = steps - 1;
    }

    int workOut() {
      int top = 0;
      for (int i = 0; i < steps; i++) {
        int sign = step[i];
        if (sign == NUMBER || sign == NAME) {
          if (top < ROOM) stack[top++] = sign == NUMBER ? tells[i] : valueOf(tells[i]);
        } else if (top < 1) {
          return 0;
        } else if (sign == LINE_END) {
          return stack[top - 1];
        } else if (sign == TEST) {
          top--;
          if (stack[top] == 0) i = Math.max(i, tells[i]);
        } else if (sign == '!') {
          stack[top - 1] = stack[top - 1] == 0 ? 1 : 0;
        } else if (sign == NEGATIVE) {
          stack[top - 1] = -stack[top - 1];
        } else if (top > 1) {
          top--;
          stack[top - 1] = join(sign, stack[top - 1], stack[top]);
        }
      }
      return 0;
    }

    private int valueOf(int name) {
      return name >= 0 && name < NAMES ? names[name] : 0;
    }

    private static int join(int sign, int a, int b) {
      switch (sign) {
        case '|': return a != 0 || b != 0 ? 1 : 0;
        case '&': return a != 0 && b != 0 ? 1 : 0;
        case '<': return a < b ? 1 : 0;
        case '=': return a == b ? 1 : 0;
        case '>': return a > b ? 1 : 0;
        case '+': return a + b;
        case '-': return a - b;
        case '*': return a * b;
        case '/': return b == 0 ? 0 : a / b;
        default: return b == 0 ? 0 : a % b;
      }
    }
  }

  /** The bytes fed, and the reader that makes a law of them. */
  private static final class Tape {
    private static final int MOST = 120, DEEPEST = 6, MOST_DIGITS = 4;
    final Law draft = new Law();
    private final int[] bytes = new int[MOST];
    int length;
    private int at;
    private boolean failed;

    boolean append(int letter) {
      if (length >= MOST) return false;
      bytes[length++] = letter;
      return true;
    }

    int readLaw() {
      at = 0;
      failed = false;
      draft.clear();
      readLine();
      for (int i = 0; i < MOST && takes(';'); i++) readLine();
      return failed || at < length ? -100 - at : 1;
    }

    private int next() {
      return !failed && at < length && at < MOST ? bytes[at] : -1;
    }

    /** Once failed, nothing is taken any more: the place stays at the fault. */
    private boolean takes(int letter) {
      if (next() != letter) return false;
      at++;
      return true;
    }

    private void readLine() {
      readEither(0);
      if (takes('?')) {
        int test = draft.add(Law.TEST, 0);
        readEither(0);
        draft.add(Law.LINE_END, 0);
        draft.aimTest(test);
      } else {
        draft.add(Law.LINE_END, 0);
      }
    }

    private void readEither(int depth) {
      readBoth(depth);
      for (int i = 0; i < MOST && takes('|'); i++) {
        readBoth(depth);
        draft.add('|', 0);
      }
    }

    private void readBoth(int depth) {
      readCompared(depth);
      for (int i = 0; i < MOST && takes('&'); i++) {
        readCompared(depth);
        draft.add('&', 0);
      }
    }

    private void readCompared(int depth) {
      readSum(depth);
      int sign = next();
      if (sign == '<' || sign == '=' || sign == '>') {
        at++;
        readSum(depth);
        draft.add(sign, 0);
      }
    }

    private void readSum(int depth) {
      readProduct(depth);
      for (int i = 0; i < MOST && (next() == '+' || next() == '-'); i++) {
        int sign = next();
        at++;
        readProduct(depth);
        draft.add(sign, 0);
      }
    }

    private void readProduct(int depth) {
      readOperand(depth);
      for (int i = 0; i < MOST && (next() == '*' || next() == '/' || next() == '%'); i++) {
        int sign = next();
        at++;
        readOperand(depth);
        draft.add(sign, 0);
      }
    }

    private void readOperand(int depth) {
      int name = nameOf(next());
      if (isDigit(next())) {
        readNumber();
      } else if (name >= 0) {
        at++;
        draft.add(Law.NAME, name);
      } else if (depth >= DEEPEST) {
        failed = true;
      } else if (takes('!')) {
        readOperand(depth + 1);
        draft.add('!', 0);
      } else if (takes('-')) {
        readOperand(depth + 1);
        draft.add(Law.NEGATIVE, 0);
      } else if (takes('(')) {
        readEither(depth + 1);
        if (!takes(')')) failed = true;
      } else {
        failed = true;
      }
    }

    private void readNumber() {
      int value = 0;
      for (int i = 0; i < MOST_DIGITS && isDigit(next()); i++) {
        value = value * 10 + next() - '0';
        at++;
      }
      draft.add(Law.NUMBER, value);
    }

    private static boolean isDigit(int letter) {
      return letter >= '0' && letter <= '9';
    }

    private static int nameOf(int letter) {
      switch (letter) {
        case 'w': return 0;
        case 'g': return 1;
        case 'l': return 2;
        case 'o': return 3;
        case 'k': return 4;
        case 'y': return 5;
        default: return -1;
      }
    }
  }

  /** What gets over from one side to the other now. */
  private static final class Smells {
    private static final int STRONGEST = 9;
    private final Street street;
    private final Course now;
    private final Law standing;
    private final int[] smelling = new int[MOST_JOYS];

    Smells(Street street, Course now, Law standing) {
      this.street = street;
      this.now = now;
      this.standing = standing;
    }

    int howMuch(int joy, int house) {
      int apart = placesApart(now.houseOfJoy(joy), house);
      int others = othersRunning(joy);
      int much = standing.isTold() ? byText(joy, apart, others) : street.worth[joy] + others - 2 * apart;
      return Math.max(0, Math.min(STRONGEST, much));
    }

    private int byText(int joy, int apart, int others) {
      int[] names = standing.names;
      if (names.length < Law.NAMES) return 0;
      names[0] = street.worth[joy];
      names[1] = apart;
      names[2] = street.lasts[joy];
      names[3] = others;
      names[4] = street.kind[joy];
      names[5] = now.today;
      return standing.workOut();
    }

    private int othersRunning(int joy) {
      int others = 0;
      for (int other = 0; other < street.joys; other++) {
        if (other != joy && now.runs(other) && now.houseOfJoy(other) == now.houseOfJoy(joy)) others++;
      }
      return others;
    }

    int housesSmelling(int joy) {
      if (!now.runs(joy)) return 0;
      int bits = 0;
      for (int house = 1 - now.sideOfJoy(joy); house < HOUSES; house += SIDES) {
        if (howMuch(joy, house) >= street.nose) bits |= 1 << house;
      }
      return bits;
    }

    /** Houses by bits: of all that leave no joy smelt, the fewest, of like ones the least. */
    int fewestShut() {
      for (int joy = 0; joy < street.joys; joy++) smelling[joy] = housesSmelling(joy);
      int best = (1 << HOUSES) - 1;
      for (int windows = 0; windows < 1 << HOUSES; windows++) {
        if (Integer.bitCount(windows) < Integer.bitCount(best) && holdsIn(windows)) best = windows;
      }
      return best;
    }

    private boolean holdsIn(int windows) {
      for (int joy = 0; joy < street.joys; joy++) {
        boolean ownShut = (windows >> now.houseOfJoy(joy) & 1) != 0;
        if (!ownShut && (smelling[joy] & ~windows) != 0) return false;
      }
      return true;
    }

    int smeltWhereLived() {
      int lived = 0;
      for (int one = 0; one < street.people; one++) lived |= 1 << now.house[one];
      int smelt = 0;
      for (int joy = 0; joy < street.joys; joy++) {
        if ((housesSmelling(joy) & lived) != 0) smelt++;
      }
      return smelt;
    }
  }

  /** Days that pass in thought, and what would be best by them. */
  private static final class Thought {
    private static final int NOBODY = 99, NOT_SEEN = 9;
    private final Street street;
    private final Course now;
    private final Course then;
    private final Shelves shelves;
    int most;
    int which;

    Thought(Street street, Course now, Shelves shelves) {
      this.street = street;
      this.now = now;
      this.shelves = shelves;
      then = new Course(street);
    }

    private void startNow() {
      then.take(now, street.people, street.joys);
    }

    Course behind(int n) {
      startNow();
      for (int i = 0; i < n; i++) then.pass();
      return then;
    }

    /** With one, if anybody is so numbered, in that house from now on. */
    private int worthBehind(int n, int one, int house) {
      startNow();
      if (street.isPerson(one)) then.house[one] = house;
      for (int i = 0; i < n; i++) then.pass();
      return then.worthOfHad();
    }

    int firstDayOf(int joy, int state) {
      startNow();
      for (int n = 0; n <= FARTHEST; n++) {
        if (then.isIn(joy, state)) return n;
        then.pass();
      }
      return NOT;
    }

    void seekMove(int n) {
      most = worthBehind(n, -1, 0);
      which = NOBODY;
      for (int place = 0; place < HOUSES * street.people; place++) {
        int worth = worthBehind(n, place / HOUSES, place % HOUSES);
        if (worth > most) {
          most = worth;
          which = place;
        }
      }
    }

    void seekDue(int joy, int n) {
      int told = street.due[joy];
      most = -1;
      for (int due = 0; due <= LAST_DUE; due++) {
        street.due[joy] = due;
        int worth = worthBehind(n, -1, 0);
        if (worth > most) {
          most = worth;
          which = due;
        }
      }
      street.due[joy] = told;
    }

    /** The first element of the row that is not as one's days go from now on. */
    int firstUnlike(int shelf, int one) {
      startNow();
      int n = Math.min(shelves.lengthOf(shelf), SEEN_DAYS);
      for (int i = 0; i < n; i++) {
        long seen = shelves.cell(shelf, i);
        if (seen != NOT_SEEN && seen != (then.isGlad(one) ? 1 : 0)) return i;
        then.pass();
      }
      return NOT;
    }

    /** How many numbers told of a joy make all of the row so, and the least of them. */
    void seekFits(int shelf, int one, int joy, int[] told, int last) {
      most = 0;
      which = NOT;
      if (joy < 0 || joy >= told.length) return;
      int was = told[joy];
      for (int v = 0; v <= last; v++) {
        told[joy] = v;
        if (firstUnlike(shelf, one) != NOT) continue;
        if (most == 0) which = v;
        most++;
      }
      told[joy] = was;
    }

    /** Joy -1: the worth of all had at the lanes' ends; else how often that joy is had. */
    int drawLanes(int seed, int lanes, int days, int moving, int joy) {
      int z = seed;
      int sum = 0;
      for (int i = 0; i < lanes; i++) {
        startNow();
        for (int k = 0; k < days; k++) {
          z = z * 1103515245 + 12345;
          moveByDraw(z, moving);
          then.pass();
        }
        if (joy < 0) sum += then.worthOfHad();
        else if (then.had(joy)) sum++;
      }
      return sum;
    }

    private void moveByDraw(int z, int moving) {
      if (street.people <= 0 || (z >>> 24) % 12 >= moving) return;
      int one = (z >>> 8) % street.people;
      if (street.isPerson(one)) then.house[one] = (z >>> 16) % HOUSES;
    }
  }

  /** Who lives across from whom, and how votes may be turned. */
  private static final class Votes {
    private static final int NOBODY = 9;
    private final Street street;
    private final Course now;
    private final int[] side = new int[MOST_PEOPLE];
    private final boolean[] reached = new boolean[1 << MOST_PEOPLE];
    int lead;
    int firstMoved;

    Votes(Street street, Course now) {
      this.street = street;
      this.now = now;
    }

    int fewestToTurn(int v) {
      int forV = v == 0 ? now.leadOfSide0() : -now.leadOfSide0();
      int others = 0;
      for (int one = 0; one < street.people; one++) {
        if (now.house[one] % SIDES != v) others++;
      }
      for (int n = 0; n <= others; n++) {
        int leading = forV + 2 * n;
        if (leading > 0 || leading == 0 && now.gladSide == v) return n;
      }
      return NOT;
    }

    private boolean areAcross(int one, int other) {
      return now.house[one] % SIDES != now.house[other] % SIDES;
    }

    int nearestAcross(int one) {
      int nearest = HOUSES;
      for (int other = 0; other < street.people; other++) {
        if (areAcross(one, other)) nearest = Math.min(nearest, placesApart(now.house[one], now.house[other]));
      }
      return nearest < HOUSES ? nearest : NOT;
    }

    /** Which sets of people of side 1 can be paired, as people of side 0 come one by one. */
    int mostPairs(int x) {
      for (int set = 0; set < reached.length; set++) reached[set] = set == 0;
      for (int one = 0; one < street.people; one++) {
        if (now.house[one] % SIDES == 0) pairOff(one, x);
      }
      int pairs = 0;
      for (int set = 0; set < reached.length; set++) {
        if (reached[set]) pairs = Math.max(pairs, Integer.bitCount(set));
      }
      return pairs;
    }

    /** From the largest set down, so that no set made here takes the same one again. */
    private void pairOff(int one, int x) {
      for (int set = reached.length - 1; set >= 0; set--) {
        for (int other = 0; reached[set] && other < street.people; other++) {
          boolean near = areAcross(one, other) && placesApart(now.house[one], now.house[other]) <= x;
          int wider = set | 1 << other;
          if (near && wider < reached.length) reached[wider] = true;
        }
      }
    }

    void playTurns(int n) {
      for (int one = 0; one < street.people; one++) side[one] = now.house[one] % SIDES;
      int before = now.leadOfSide0();
      lead = bestLead(n - 1, false, before);
      firstMoved = NOBODY;
      for (int one = 0; one < street.people; one++) {
        int reachedLead = leadIfMoved(one, n - 1, false, before);
        if (reachedLead > lead) {
          lead = reachedLead;
          firstMoved = one;
        }
      }
    }

    private int bestLead(int left, boolean firstsTurn, int before) {
      if (left <= 0) return before;
      int best = bestLead(left - 1, !firstsTurn, before);
      for (int one = 0; one < street.people; one++) {
        int other = leadIfMoved(one, left - 1, !firstsTurn, before);
        best = firstsTurn ? Math.max(best, other) : Math.min(best, other);
      }
      return best;
    }

    private int leadIfMoved(int one, int left, boolean firstsTurn, int before) {
      int behind = before + (side[one] == 0 ? -2 : 2);
      side[one] = 1 - side[one];
      int best = bestLead(left, firstsTurn, behind);
      side[one] = 1 - side[one];
      return best;
    }
  }

  /** Bodies by kinds, and what runs when one acts. */
  private static final class Acts {
    static final int KINDS = 8;
    private static final int MOST = 50, TRACED = 24, ACTS = 4, DEEPEST = 40;
    private static final int OPENS = 0, SMELLS = 1, VOTING = 2;
    private static final int[] ABOVE = {-1, 0, 0, 2, 1, 3, 0, 6};
    /** By kind, then act: the number of the kind's own body; 0: it has none. */
    private static final int[] OWN = {
      1, 10, 11, 2,
      20, 0, 0, 0,
      0, 30, 0, 0,
      0, 41, 40, 0,
      0, 0, 0, 50,
      0, 0, 60, 61,
      70, 0, 0, 0,
      81, 80, 0, 0
    };
    final int[] kinds = new int[MOST];
    final int[] trail = new int[TRACED];
    int bodies;
    int ran;
    private int self;

    boolean isBody(int body) {
      return body >= 0 && body < bodies && body < MOST;
    }

    int add(int kind) {
      if (bodies >= MOST) return FULL;
      kinds[bodies] = kind;
      return bodies++;
    }

    int traced() {
      return Math.min(ran, TRACED);
    }

    static boolean isUnder(int kind, int wanted) {
      int k = kind;
      for (int i = 0; i < KINDS && k >= 0 && k < KINDS; i++) {
        if (k == wanted) return true;
        k = ABOVE[k];
      }
      return false;
    }

    int perform(int body, int act, int x) {
      ran = 0;
      if (!isBody(body) || act < 0 || act >= ACTS) return 0;
      self = body;
      return ask(act, x, 0);
    }

    /** The acting body's own kind answers first. */
    private int ask(int act, int x, int depth) {
      return run(kinds[self], act, x, depth + 1);
    }

    private static int holderFrom(int kind, int act) {
      int k = kind;
      for (int i = 0; i < KINDS && k >= 0 && k < KINDS; i++) {
        if (OWN[k * ACTS + act] != 0) return k;
        k = ABOVE[k];
      }
      return -1;
    }

    private void note(int number) {
      if (ran < TRACED) trail[ran] = number;
      ran++;
    }

    private int run(int from, int act, int x, int depth) {
      int holder = holderFrom(from, act);
      if (holder < 0 || depth > DEEPEST) return 0;
      int number = OWN[holder * ACTS + act];
      int up = ABOVE[holder];
      note(number);
      switch (number) {
        case 1: return x + self;
        case 2: return ask(SMELLS, x, depth) - ask(VOTING, 1, depth);
        case 10: return ask(OPENS, x, depth) * 2;
        case 11: return x ^ self;
        case 20: return run(up, act, x, depth + 1) + 3;
        case 30: return -run(up, act, x, depth + 1);
        case 40: return run(up, act, x, depth + 1) * 3;
        case 41: return run(up, act, x + 1, depth + 1);
        case 50: return run(up, act, x, depth + 1) ^ 5;
        case 60: return run(up, act, x, depth + 1) - ask(OPENS, 2, depth);
        case 61: return run(up, act, x, depth + 1) + 1;
        case 70: return run(up, act, x, depth + 1) * 2;
        case 80: return run(up, act, x, depth + 1) + ask(VOTING, 2, depth);
        case 81: return run(up, act, x, depth + 1) - 1;
        default: return 0;
      }
    }
  }

  /** Shelves that hold nothing, a body, or a row of one of the sorts. */
  private static final class Shelves {
    static final int SORTS = 5, LONGEST = 60;
    private static final int SHELVES = 6, BYTES = 0, BODY = 5, EMPTY = 6;
    private final int[] holds = new int[SHELVES];
    private final int[] number = new int[SHELVES];
    private final long[] cells = new long[SHELVES * LONGEST];

    Shelves() {
      for (int shelf = 0; shelf < SHELVES; shelf++) holds[shelf] = EMPTY;
    }

    static boolean isShelf(int shelf) {
      return shelf >= 0 && shelf < SHELVES;
    }

    boolean isEmpty(int shelf) {
      return !isShelf(shelf) || holds[shelf] == EMPTY;
    }

    private boolean isRow(int shelf) {
      return shelf >= 0 && shelf < SHELVES && holds[shelf] < SORTS;
    }

    int bodyOn(int shelf) {
      return isShelf(shelf) && holds[shelf] == BODY ? number[shelf] : -1;
    }

    int lengthOf(int shelf) {
      return isRow(shelf) ? number[shelf] : 0;
    }

    void empty(int shelf) {
      if (isShelf(shelf)) holds[shelf] = EMPTY;
    }

    void layBody(int shelf, int body) {
      if (!isShelf(shelf)) return;
      holds[shelf] = BODY;
      number[shelf] = body;
    }

    void layRow(int shelf, int sort, int n) {
      if (!isShelf(shelf) || n < 0 || n > LONGEST) return;
      holds[shelf] = sort;
      number[shelf] = n;
      for (int i = 0; i < n; i++) cells[shelf * LONGEST + i] = 0;
    }

    /** 0: there is a row; else what is to be answered. */
    private int refuseRow(int shelf) {
      if (!isShelf(shelf)) return BAD;
      if (isEmpty(shelf)) return NOTHING;
      return isRow(shelf) ? 0 : UNLIKE;
    }

    int refuseBytes(int shelf) {
      int refusal = refuseRow(shelf);
      if (refusal != 0) return refusal;
      return holds[shelf] == BYTES ? 0 : UNLIKE;
    }

    int refusePlace(int shelf, int i) {
      int refusal = refuseRow(shelf);
      if (refusal != 0) return refusal;
      return hasRun(shelf, i, 1) ? 0 : NO_PLACE;
    }

    int refusePair(int shelf, int other) {
      if (!isShelf(shelf) || !isShelf(other)) return BAD;
      if (isEmpty(shelf) || isEmpty(other)) return NOTHING;
      return isRow(shelf) && holds[shelf] == holds[other] ? 0 : UNLIKE;
    }

    boolean hasRun(int shelf, int i, int n) {
      return i >= 0 && n >= 0 && i <= lengthOf(shelf) - n;
    }

    long cell(int shelf, int i) {
      return isRow(shelf) && hasRun(shelf, i, 1) ? cells[shelf * LONGEST + i] : 0;
    }

    void setCell(int shelf, int i, long v) {
      if (isRow(shelf) && hasRun(shelf, i, 1)) cells[shelf * LONGEST + i] = cut(holds[shelf], v);
    }

    void copyRun(int shelf, int i, int other, int j, int n) {
      if (!isRow(shelf) || !isRow(other) || !hasRun(shelf, i, n) || !hasRun(other, j, n)) return;
      System.arraycopy(cells, shelf * LONGEST + i, cells, other * LONGEST + j, n);
    }

    private static long cut(int sort, long v) {
      switch (sort) {
        case BYTES: return (byte) v;
        case 1: return (short) v;
        case 2: return (int) v;
        case 4: return v != 0 ? 1 : 0;
        default: return v;
      }
    }
  }
}
