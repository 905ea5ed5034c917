import java.lang.reflect.InvocationTargetException;
import java.lang.reflect.Method;
import java.util.ArrayList;
import java.util.Arrays;
import java.util.List;

/** Promises 1 to 42 together: drawn runs of 512 calls, each answered by GladSide as by the Model. */
public final class ModelTest {
  private static final Checks CHECKS = new Checks();
  private static final int RUNS = 1500, CALLS = 512, ANY = -1, LANES = -2;

  /** A call, how often it is drawn, and below which number each argument stays, if it is as it may be. */
  private record Call(String name, int weight, int... below) {
  }

  private static final Call[] TABLE = {
    new Call("person", 4, 12), new Call("joy", 6, 7, 100), new Call("joys", 3, 6, 30, 11), new Call("mend", 30, 10, 12, 13),
    new Call("of", 12, 10, 13), new Call("law", 1), new Call("smell", 8, 10, 12), new Call("smelt", 6, 10),
    new Call("shut", 4, 2), new Call("lane", 14, 61, 9), new Call("when", 6, 10, 2), new Call("move", 1, 41, 2),
    new Call("over", 3, 2), new Call("date", 1, 10, 61, 2), new Call("judge", 6, 6, 7), new Call("fits", 4, 6, 70, 4),
    new Call("who", 3, 6), new Call("share", 4, 7, 10000), new Call("near", 3, 7), new Call("mates", 3, 6),
    new Call("byTurns", 1, 5, 2), new Call("drawn", 3, ANY, LANES, 10), new Call("moves", 8, 7, 12), new Call("day", 30),
    new Call("inspect", 8), new Call("led", 10, 6), new Call("image", 2), new Call("back", 2), new Call("undo", 10),
    new Call("redo", 8), new Call("body", 4, 8), new Call("act", 8, 12, 4, ANY), new Call("trace", 5, 12),
    new Call("keep", 6, 6, 12), new Call("row", 4, 6, 5, 61), new Call("put", 14, 6, 60, 10), new Call("element", 6, 6, 60),
    new Call("shift", 6, 6, 20, 6, 20, 20), new Call("taken", 9, 6, 8), new Call("count", 6, 6),
  };
  private static final String[] TEXTS = {"w", "9-g*2", "o+w;", "w>4?9;o", "k=2&!o?w-g;y%7", "-(w-9)", "l*!(g<2)", "(y/3-w)*-1", "1?",
    "w+", "!!!!!!w", "!!!!!!!w", "((((((w))))))", "w<g<o", "12345", "0?1;0?2;7|0", "g/0+3", "w%0", "9999*9999*9999*k", "w w"};

  private static final Call[] CHANGES = {new Call("mend", 1, 10, 12, 13), new Call("mend", 1, 10, 8, 9),
    new Call("mend", 1, 1, 12, 2), new Call("undo", 1), new Call("redo", 1)};
  private static final List<Call> DRAWN = new ArrayList<>();
  private static final int[] ANSWERED = new int[TABLE.length];

  public static void main(String[] args) {
    for (Call call : TABLE) {
      for (int i = 0; i < call.weight; i++) DRAWN.add(call);
    }
    for (int seed = 0; seed < RUNS; seed++) run(new Draws(seed), seed);
    for (int i = 0; i < TABLE.length; i++) CHECKS.holds(TABLE[i].name + " was answered by more than refusals", ANSWERED[i] > 500);
    CHECKS.end("ModelTest");
  }

  private static void run(Draws draws, int seed) {
    GladSide x = new GladSide();
    Model model = new Model();
    settle(draws, x, model);
    int calls = 0;
    while (calls < CALLS - 60) {
      if (draws.oneIn(60)) {
        calls += feed(text(draws), seed, x, model);
      } else {
        // in some runs mostly changes, so that more come than are kept
        Call call = seed % 5 == 0 && !draws.oneIn(3) ? CHANGES[draws.below(CHANGES.length)] : DRAWN.get(draws.below(DRAWN.size()));
        ask(draws, call, "call " + calls + " of run " + seed + ": ", x, model);
        calls++;
      }
    }
  }

  /** Some of the runs begin with a lane that is lived in, the others with none. */
  private static void settle(Draws draws, GladSide x, Model model) {
    int people = draws.below(8);
    for (int i = 0; i < people; i++) {
      int house = draws.below(12);
      CHECKS.due("person", x.person(house), model.person(house));
    }
    int joys = people == 0 ? 0 : draws.below(11);
    for (int i = 0; i < joys; i++) {
      int of = draws.below(people);
      int due = draws.below(20);
      CHECKS.due("joy", x.joy(of, due), model.joy(of, due));
    }
    for (int shelf = 0; shelf < 3; shelf++) {
      int length = draws.below(61);
      CHECKS.due("row", x.row(shelf, 0, length), model.row(shelf, 0, length));
    }
  }

  private static String text(Draws draws) {
    if (draws.oneIn(2)) return TEXTS[draws.below(TEXTS.length)];
    StringBuilder text = new StringBuilder();
    int length = draws.below(20);
    for (int i = 0; i < length; i++) text.append((i % 2 == 0 ? "wglok1y!-(" : "+-*/%<=>&|;?)").charAt(draws.below(i % 2 == 0 ? 10 : 13)));
    return text.toString();
  }

  private static int feed(String text, int seed, GladSide x, Model model) {
    for (char letter : text.toCharArray()) CHECKS.due("feed in run " + seed, x.feed(letter), model.feed(letter));
    int want = model.law();
    CHECKS.due("law " + text + " in run " + seed, x.law(), want);
    if (want == 1) ANSWERED[indexOf("law")]++;
    return text.length() + 1;
  }

  private static void ask(Draws draws, Call call, String where, GladSide x, Model model) {
    Object[] arguments = new Object[call.below.length];
    for (int i = 0; i < arguments.length; i++) arguments[i] = argument(draws, call.below[i]);
    if (call.name.equals("put")) arguments[2] = element(draws);
    long want = answer(Model.class, model, call, arguments);
    long got = answer(GladSide.class, x, call, arguments);
    CHECKS.due(where + call.name + Arrays.toString(arguments), got, want);
    if (want >= 0) ANSWERED[indexOf(call.name)]++;
  }

  private static int indexOf(String name) {
    int i = 0;
    while (!TABLE[i].name.equals(name)) i++;
    return i;
  }

  private static int argument(Draws draws, int below) {
    if (below == ANY) return draws.any();
    if (below == LANES) return 10000 * argument(draws, 31) + 100 * argument(draws, 41) + argument(draws, 13);
    if (draws.oneIn(40)) return draws.below(4) - 2;
    if (draws.oneIn(40)) return below + draws.below(2);
    if (draws.oneIn(200)) return draws.any();
    return draws.below(draws.oneIn(3) ? Math.min(below, 4) : below);
  }

  /** Mostly what a shutter may have shown, or what a joy may be of. */
  private static long element(Draws draws) {
    if (draws.oneIn(12)) return (long) draws.any() << draws.below(33);
    int sort = draws.below(4);
    return sort == 0 ? 9 : sort < 3 ? draws.below(2) : draws.below(10);
  }

  private static long answer(Class<?> face, Object object, Call call, Object[] arguments) {
    Class<?>[] types = new Class<?>[arguments.length];
    for (int i = 0; i < types.length; i++) types[i] = arguments[i] instanceof Long ? long.class : int.class;
    try {
      Method method = face.getDeclaredMethod(call.name, types);
      return ((Number) method.invoke(object, arguments)).longValue();
    } catch (InvocationTargetException thrown) {
      throw new IllegalStateException(call.name + Arrays.toString(arguments), thrown.getCause());
    } catch (ReflectiveOperationException noSuch) {
      throw new IllegalStateException(noSuch);
    }
  }
}
