import java.lang.reflect.InvocationTargetException;
import java.lang.reflect.Method;
import java.util.ArrayList;
import java.util.HashMap;
import java.util.List;
import java.util.Map;
import java.util.Random;

/** Long random runs of all calls, each answer held against the slow model's (seeds are fixed). */
public final class ModelTest {
  private static final Map<String, Method> FAST = methods(SoftWheels.class);
  private static final Map<String, Method> SLOW = methods(SlowWheels.class);
  private static final String[] NAMES = {"sand", "rock", "mud", "a", "b", "sinks", "grips", "each", "one", "cost", "wheels", "abcdefgh"};
  private static final String[] ODD = {"ground", "rover", "try", "if", "is", "else", "right", "left", "up", "down", "sand", "zz",
      ";", ",", "-", "(", ")", "0", "1", "4", "5", "9", "10", "90", "91", "150", "151", "300", "301", "999", "1000", "12345",
      "abcdefghi", "A", "\u0000", "\u00e9", "\t", "  ", "sinks", "grips"};
  private static int calls = 0;
  private static int wrong = 0;

  private final Random r;
  private final SoftWheels x = new SoftWheels();
  private final SlowWheels y = new SlowWheels();
  private final List<String> told = new ArrayList<>();
  private boolean off = false;

  private ModelTest(long seed) { r = new Random(seed); }

  private static Map<String, Method> methods(Class<?> c) {
    Map<String, Method> all = new HashMap<>();
    for (Method m : c.getMethods()) if (m.getDeclaringClass() == c) all.put(m.getName(), m);
    return all;
  }

  private static String answer(Method m, Object on, Object[] args) {
    try {
      return String.valueOf(m.invoke(on, args));
    } catch (InvocationTargetException e) {
      return "throws." + e.getCause().getClass().getSimpleName();
    } catch (IllegalAccessException e) {
      throw new IllegalStateException(e);
    }
  }

  private String ask(String name, Object... args) {
    calls++;
    String got = answer(FAST.get(name), x, args);
    String due = answer(SLOW.get(name), y, args);
    StringBuilder line = new StringBuilder(name).append('(');
    for (int i = 0; i < args.length; i++) line.append(i > 0 ? ", " : "").append(args[i]);
    told.add(line.append(") ").append(got).toString());
    if (!got.equals(due) && !off) {
      off = true;
      wrong++;
      System.out.println("due is " + due + " at the end of:");
      for (String t : told) System.out.println("  " + t);
    }
    return got;
  }

  private int up(int n) { return r.nextInt(n); }
  private boolean rare(int n) { return r.nextInt(n) == 0; }

  /** Mostly 0 .. n - 1, at times just outside or far off. */
  private int in(int n) {
    if (rare(25)) return rare(3) ? r.nextInt() : rare(2) ? -1 : n;
    return n <= 0 ? up(2) : up(n);
  }

  // ---- texts

  private String pairs(int mostKey, int mostValue, boolean rising) {
    StringBuilder s = new StringBuilder();
    int n = 1 + up(rare(12) ? 5 : 4);
    int key = up(rare(2) ? 3 : 30);
    int value = up(rising ? 6 : mostValue / 2 + 1);
    for (int i = 0; i < n; i++) {
      if (i > 0) s.append(rare(2) ? ", " : " ,");
      s.append(key).append(' ').append(value);
      key += rare(20) ? 0 : 1 + up(mostKey / 4 + 1);
      value = rising ? value + (rare(20) ? -1 : up(20)) : up(mostValue + 1);
    }
    return s.toString();
  }

  private String book() {
    List<String> lines = new ArrayList<>();
    int grounds = rare(12) ? up(10) : 1 + up(4);
    int tries = rare(12) ? up(8) : up(4);
    for (int i = 0; i < grounds; i++) {
      String name = NAMES[rare(20) ? up(NAMES.length) : i % NAMES.length];
      lines.add("ground " + name + " sinks " + pairs(rare(2) ? 60 : 999, 300, true) + " grips " + pairs(90, 150, false));
    }
    for (int i = 0; i < tries; i++) {
      String name = NAMES[rare(20) ? up(NAMES.length) : i % NAMES.length];
      lines.add("try " + name + " each " + turn(rare(2)) + " one " + turn(true) + " cost " + (1 + up(rare(3) ? 99 : 5)));
    }
    if (!rare(5)) {
      lines.add(up(lines.size() + 1), "rover wheels " + (2 + up(rare(6) ? 5 : 3)) + " weight " + (1 + up(rare(2) ? 100 : 400)) + " clear "
          + (20 + up(80)) + " tip " + (5 + up(60)) + " drag " + up(rare(2) ? 100 : 10));
    }
    return mutated(String.join(rare(2) ? ";" : " ; ", lines));
  }

  private String turn(boolean down) {
    int v = rare(25) ? 5 : up(rare(3) ? 5 : 3);
    return (down && !rare(3) ? "- " : rare(6) ? "-" : "") + v;
  }

  private String steps(int deep) {
    StringBuilder s = new StringBuilder();
    int n = 1 + up(deep == 0 ? 4 : 2);
    if (rare(60)) n = 42;
    for (int i = 0; i < n; i++) {
      if (i > 0) s.append(rare(2) ? "; " : ";");
      if (up(n > 6 ? 20 : 3) == 0 && deep < 8) {
        s.append("if ").append(in(y.count(9))).append(" is ").append(NAMES[in0(y.count(0))]);
        s.append(" (").append(steps(deep + (rare(8) ? 2 : 1))).append(')');
        if (rare(2)) s.append(" else(").append(steps(deep + 1)).append(')');
      } else {
        s.append(new String[] {"right", "left", "up", "down"}[up(4)]);
        if (rare(4)) s.append(' ').append(rare(10) ? up(12) : 1 + up(3));
      }
    }
    return s.toString();
  }

  /** Brackets within brackets, six or seven of them. */
  private String nested() {
    int n = 5 + up(3);
    StringBuilder s = new StringBuilder();
    for (int i = 0; i < n; i++) s.append("if 0 is ").append(NAMES[0]).append('(');
    s.append("up");
    for (int i = 0; i < n; i++) s.append(")");
    return s.toString();
  }

  private int in0(int n) { return rare(20) ? up(NAMES.length) : n <= 0 ? 0 : up(Math.min(n, NAMES.length)); }

  private String mutated(String text) {
    if (!rare(4) || text.isEmpty()) return text;
    int at = up(text.length());
    switch (up(4)) {
      case 0: return text.substring(0, at);
      case 1: return text.substring(0, at) + text.substring(at + 1);
      case 2: return text.substring(0, at) + " " + ODD[up(ODD.length)] + " " + text.substring(at);
      default:
        String[] words = text.split(" ");
        words[up(words.length)] = ODD[up(ODD.length)];
        return String.join(" ", words);
    }
  }

  private void put(String text) {
    for (int i = 0; i < text.length(); i += 20) {
      ask("feed", Due.word(text, i), Due.word(text, i + 4), Due.word(text, i + 8), Due.word(text, i + 12), Due.word(text, i + 16));
    }
  }

  private void tell(String call, String text) {
    // An empty text is a fault: the tape is empty then, and what was told stays.
    if (x.count(13) > 0 && !rare(9)) ask("book", 0);
    if (text.length() > 500 && !rare(9)) text = text.substring(0, 500);
    put(text);
    ask(call, rare(30) ? text.length() + 21 : rare(40) ? -1 : rare(10) ? (text.length() + 19) / 20 * 20 : text.length());
    ask("trouble");
    ask("fault");
    ask("where");
  }

  // ---- a run

  private void land(int most) {
    ask("map", rare(9) ? 1 + in(10) : 2 + up(most), rare(9) ? in(4) : 2 + up(most));
    if (y.count(8) > 30) ask("map", 4, 3);
    int cells = y.count(8);
    for (int i = 0; i < cells; i++) {
      if (rare(2)) ask("ground", i, in(y.count(0)));
      if (rare(3)) ask("height", i, up(rare(6) ? 80 : 10));
    }
  }

  private void doubts(int most) {
    int cells = y.count(8);
    for (int i = up(most + 1); i > 0; i--) ask("doubt", in(cells));
    for (int d = 0; d < y.count(9); d++) {
      for (int k = up(4); k > 0; k--) ask("weigh", d, in(y.count(0)), up(10));
    }
  }

  private void some() {
    int cells = y.count(8);
    int grounds = y.count(0);
    int all = y.count(9);
    switch (up(30)) {
      case 0: ask("sink", in(grounds), in(1000)); break;
      case 1: ask("grip", in(grounds), in(91)); break;
      case 2: ask("dead", in(y.count(2))); break;
      case 3: ask("height", in(cells), rare(9) ? in(1000) : up(30)); break;
      case 4: ask("ground", in(cells), in(grounds)); break;
      case 5: if (all < 3 || rare(5)) ask("doubt", in(cells)); break;
      case 6: case 7: ask("weigh", in(all), in(grounds), in(10)); break;
      case 8: ask("told", in(all), in(grounds)); break;
      case 9: ask("forget", in(all)); break;
      case 10: ask("of", in(cells), in(3)); break;
      case 11: case 12: ask("step", in(cells), in(4), in(grounds), in(4)); break;
      case 13: ask("worst", in(cells), in(cells)); break;
      case 14: ask("mean", in(cells), in(cells), r.nextBoolean()); break;
      case 15: ask("way", in(cells), in(cells), r.nextBoolean()); break;
      case 16: ask("truths"); break;
      case 17: ask("truth", in(y.truths()), in(all)); break;
      case 18: ask("run", in(cells), in(cells), r.nextBoolean(), in(y.truths())); break;
      case 19: ask("led", in(6)); break;
      case 20: ask("regret", in(cells), in(cells)); break;
      case 21: ask("worth", in(all), in(cells), in(cells), r.nextBoolean()); break;
      case 22: ask("spared", in(all), in(cells), in(cells)); break;
      case 23: case 24:
        ask("failing", in(y.count(11)), in(cells), in(cells), rare(9) ? in(10000000) : up(90));
        for (int i = 0; i < 3; i++) ask("first", i);
        ask("first", in(3));
        break;
      case 25: planned(); break;
      case 26: ask("dig", in(y.count(2)), in(5)); break;
      case 27: ask("out"); ask("tryAt", in(3)); break;
      case 28: ask("make", in(y.count(1)), in(y.count(2))); break;
      default: ask("count", in(14));
    }
    ask("trouble");
    if (rare(8)) ask("where");
  }

  /** A plan asked from each cell, to where it ends by the model. */
  private void planned() {
    int n = y.count(11);
    int cells = y.count(8);
    for (int i = 0; i < 4 && n > 0; i++) {
      int p = up(n);
      int from = up(cells);
      for (int to = 0; to < cells; to++) {
        String most = ask("costs", p, from, to);
        if (!most.startsWith("-")) {
          ask("failing", p, from, to, Integer.parseInt(most));
          ask("failing", p, from, to, Math.max(0, Integer.parseInt(most) - 1));
          for (int k = 0; k < 3; k++) ask("first", k);
        }
      }
    }
    if (n == 0) ask("costs", 0, 0, 0);
  }

  private void go() {
    for (int i = 0; i < 3 && rare(3); i++) some();
    for (int i = 0; i < 4 && (i == 0 || y.count(0) == 0); i++) tell("book", book());
    land(rare(4) ? 5 : 3);
    doubts(3);
    for (int i = up(4); i > 0; i--) tell("plan", rare(12) ? nested() : mutated(steps(0)));
    while (told.size() < 480) {
      some();
      if (rare(20)) tell("plan", rare(12) ? nested() : mutated(steps(0)));
      if (rare(200)) tell("book", book());
      if (rare(200)) { land(3); doubts(3); }
    }
    for (int i = 0; i <= 14; i++) ask("count", i);
  }

  /** A map with walls and many doubts, and every question of ways. */
  private void goMaze(int side, int most) {
    // Ice is the best on the level and no good uphill, so that none of the grounds is best always.
    String text = "ground ice sinks 0 0 grips 0 1;ground rock sinks 0 5 grips 0 0, 20 30;"
        + "ground mud sinks 0 30 grips 0 1, 80 40;ground bog sinks 0 90 grips 0 1;rover wheels 4 weight 120 clear 50 tip 30 drag 3";
    put(text);
    ask("book", text.length());
    ask("map", side, side);
    int cells = side * side;
    for (int c = 0; c < cells; c++) {
      ask("ground", c, rare(3) ? up(3) : 1);
      if (rare(3)) ask("height", c, rare(3) ? 999 : up(25));
    }
    for (int d = 0; d < most; d++) {
      ask("doubt", up(cells));
      for (int k = 0; k < 3; k++) ask("weigh", d, rare(2) ? 3 : up(4), 1 + up(9));
    }
    if (rare(3)) ask("dead", 1);
    for (int i = 0; i < 3; i++) {
      int to = up(cells);
      for (int k = 0; k < 3; k++) questions(up(cells), to, most);
      if (rare(2)) ask("told", up(most), up(4));
      if (rare(4)) ask("forget", up(most));
    }
  }

  /** The widest map with costs of all kinds: what is near is often dear, so cells are found in no plain order. */
  private void goRough() {
    String text = "ground a sinks 0 0 grips 0 0, 90 40;ground b sinks 0 9 grips 0 0, 90 90;ground c sinks 0 30 grips 50 0, 90 60;"
        + "ground d sinks 0 4 grips 0 150;rover wheels 4 weight 100 clear 50 tip 200 drag 0";
    put(text);
    ask("book", text.length());
    ask("map", 10, 10);
    for (int c = 0; c < 100; c++) {
      ask("ground", c, up(4));
      ask("height", c, up(rare(3) ? 200 : 40));
    }
    ask("doubt", up(100));
    ask("weigh", 0, up(4), 3);
    for (int i = 0; i < 4; i++) {
      int to = up(100);
      for (int k = 0; k < 12; k++) ask("worst", up(100), to);
      ask("mean", up(100), to, false);
    }
  }

  private void questions(int from, int to, int doubts) {
    ask("worst", from, to);
    ask("mean", from, to, false);
    ask("mean", from, to, true);
    ask("way", from, to, true);
    ask("way", from, to, false);
    ask("regret", from, to);
    for (int d = 0; d < doubts; d++) ask("spared", d, from, to);
    int d = up(doubts);
    ask("worth", d, from, to, false);
    ask("worth", d, from, to, true);
    String cost = ask("run", from, to, r.nextBoolean(), up(Math.max(1, y.truths())));
    for (int i = 0; i < 20 && !cost.equals("-1"); i++) {
      if (ask("led", i).startsWith("throws")) break;
    }
  }

  public static void main(String[] args) {
    int runs = args.length > 0 ? Integer.parseInt(args[0]) : 240;
    long seed = args.length > 1 ? Long.parseLong(args[1]) : 1;
    for (int i = 0; i < runs && wrong < 5; i++) new ModelTest(seed * 1000003 + i).go();
    for (int i = 0; i < runs / 3 && wrong < 5; i++) new ModelTest(seed * 7000003 + i).goMaze(3 + i % 4, 2 + i % 3);
    for (int i = 0; i < 12 && wrong < 5; i++) new ModelTest(seed * 8000009 + i).goRough();
    if (wrong == 0) new ModelTest(seed * 9000011).goMaze(7, 5);
    System.out.println("ModelTest: " + calls + " calls, " + wrong + " runs wrong");
    if (wrong != 0) System.exit(1);
  }
}
