import java.io.IOException;
import java.lang.reflect.Constructor;
import java.lang.reflect.Field;
import java.lang.reflect.Method;
import java.lang.reflect.Modifier;
import java.nio.file.Files;
import java.nio.file.Path;
import java.util.ArrayList;
import java.util.List;
import java.util.TreeSet;

/** The public face to the letter, and those rules of LANGUAGE.md that a machine can look for. */
public final class FaceTest {
  private static final Checks CHECKS = new Checks();
  private static final String FACE = "int act(int,int,int);int back();int body(int);int byTurns(int,int);int count(int);"
    + "int date(int,int,int);int day();int drawn(int,int,int);int feed(int);int fits(int,int,int);int image();int inspect();"
    + "int joy(int,int);int joys(int,int,int);int judge(int,int);int keep(int,int);int lane(int,int);int law();int led(int);"
    + "int mates(int);int mend(int,int,int);int move(int,int);int moves(int,int);int near(int);int of(int,int);int over(int);"
    + "int person(int);int put(int,int,long);int redo();int row(int,int,int);int share(int,int);int shift(int,int,int,int,int);"
    + "int shut(int);int smell(int,int);int smelt(int);int taken(int,int);int trace(int);int undo();int when(int,int);"
    + "int who(int);long element(int,int);";

  public static void main(String[] args) throws IOException {
    face();
    for (Class<?> inside : GladSide.class.getDeclaredClasses()) {
      CHECKS.holds(inside + " is static and not public", Modifier.isStatic(inside.getModifiers())
        && !Modifier.isPublic(inside.getModifiers()) && !Modifier.isProtected(inside.getModifiers()));
      members(inside);
    }
    members(GladSide.class);
    CHECKS.holds("at most twelve classes", GladSide.class.getDeclaredClasses().length < 12);
    if (args.length > 0) source(Files.readString(Path.of(args[0])));
    CHECKS.end("FaceTest");
  }

  private static void face() {
    TreeSet<String> seen = new TreeSet<>();
    for (Method method : GladSide.class.getDeclaredMethods()) {
      if (Modifier.isPrivate(method.getModifiers())) continue;
      CHECKS.holds(method + " is public and no static", method.toString().startsWith("public " + method.getReturnType() + " "));
      seen.add(told(method));
    }
    CHECKS.holds("the face is " + FACE + " and not " + String.join("", seen), String.join("", seen).equals(FACE));
    Constructor<?>[] made = GladSide.class.getDeclaredConstructors();
    CHECKS.holds("one public constructor without arguments", made.length == 1 && made[0].getParameterCount() == 0
      && Modifier.isPublic(made[0].getModifiers()));
    int kind = GladSide.class.getModifiers();
    CHECKS.holds("public and final", Modifier.isPublic(kind) && Modifier.isFinal(kind));
    TreeSet<String> constants = new TreeSet<>();
    for (Field field : GladSide.class.getDeclaredFields()) {
      if (!Modifier.isPrivate(field.getModifiers())) constants.add(field.toString());
    }
    CHECKS.holds("the five constants", constants.size() == 5);
    for (String name : new String[] {"BAD", "FULL", "NOT", "STATE", "VOID"}) {
      CHECKS.holds(name, constants.contains("public static final int GladSide." + name));
    }
    CHECKS.due("BAD", GladSide.BAD, -1);
    CHECKS.due("NOT", GladSide.NOT, -2);
    CHECKS.due("FULL", GladSide.FULL, -3);
    CHECKS.due("STATE", GladSide.STATE, -5);
    CHECKS.due("VOID", GladSide.VOID, -2000000000);
  }

  private static String told(Method method) {
    List<String> types = new ArrayList<>();
    for (Class<?> type : method.getParameterTypes()) types.add(type.toString());
    return method.getReturnType() + " " + method.getName() + "(" + String.join(",", types) + ");";
  }

  private static void members(Class<?> holder) {
    int fields = 0;
    for (Field field : holder.getDeclaredFields()) {
      if (!Modifier.isStatic(field.getModifiers())) fields++;
      else CHECKS.holds(field + " is final", Modifier.isFinal(field.getModifiers()));
    }
    CHECKS.holds(holder + " has some twenty fields", fields <= 20);
    for (Method method : holder.getDeclaredMethods()) {
      CHECKS.holds(method + " has at most seven parameters", method.getParameterCount() <= 7);
      boolean own = holder == GladSide.class && !Modifier.isPrivate(method.getModifiers());
      CHECKS.holds(method + " bears no public name", own || !FACE.contains(" " + method.getName() + "("));
    }
  }

  private static void source(String text) {
    String code = text.replaceAll("(?s)/\\*.*?\\*/", "").replaceAll("//[^\n]*", "").replaceAll("'[^']*'", "0");
    String[] words = {"throw", "throws", "try", "catch", "finally", "synchronized", "assert", "import", "package", "Object",
      "protected", "volatile", "native", "strictfp", "equals", "hashCode", "toString", "instanceof", "while", "do"};
    for (String word : words) CHECKS.holds("no word " + word, !code.matches("(?s).*\\b" + word + "\\b.*"));
    for (String sign : new String[] {"->", "::", "\"", "@"}) CHECKS.holds("no sign " + sign, !code.contains(sign));
    CHECKS.holds("plain signs", text.chars().allMatch(c -> c == '\n' || c >= 32 && c < 127));
    int since = 0;
    String[] lines = code.split("\n");
    for (int i = 0; i < lines.length; i++) {
      if (lines[i].matches("  (  )?[^ ].*\\(.*\\) \\{")) since = i;
      if (lines[i].matches("  (  )?\\}")) CHECKS.holds("sixty lines up to line " + (i + 1), i - since < 60 || lines[i].equals("  }"));
    }
  }
}
