/** Promises 4 and 29 to 31: plans, their faults, in which truths they fail, what they cost. */
public final class PlanTest {
  private static final String ROCK = "ground rock sinks 0 0 grips 0 80;ground mud sinks 0 90 grips 0 0, 90 9;"
      + "ground bog sinks 0 101 grips 0 0;ground ice sinks 0 0 grips 0 0";

  public static void main(String[] args) {
    reading();
    faults();
    room();
    moves();
    ifs();
    reasons();
    bounds();
    wrongInputs();
    Due.end("PlanTest");
  }

  private static SoftWheels square() {
    SoftWheels x = Due.withBook(ROCK);
    x.map(3, 3);
    return x;
  }

  private static void reading() {
    SoftWheels x = new SoftWheels();
    Due.feed(x, "right");
    Due.refused(x, "plan(5) without book", x.plan(5), 1);
    Due.refused(x, "plan(-1) without book", x.plan(-1), 1);
    Due.same("the tape stays", x.count(13), 20);
    x.book(0);
    Due.book(x, ROCK);
    Due.feed(x, "right");
    Due.refused(x, "plan(5) without map", x.plan(5), 1);
    Due.same("the tape stays", x.count(13), 20);
    x.map(3, 3);
    Due.refused(x, "plan(-1)", x.plan(-1), 2);
    Due.refused(x, "plan(21)", x.plan(21), 2);
    Due.same("fault() is that of the book", x.fault(), 0);
    Due.same("plan(20)", x.plan(20), 0);
    Due.same("trouble()", x.trouble(), 0);
    Due.same("count(13)", x.count(13), 0);
    Due.same("count(11)", x.count(11), 1);
    Due.same("each way", Due.plan(x, " right 1;left 9 ; up2;down "), 1);
    x.doubt(4);
    Due.same("if", Due.plan(x, "if 0 is rock(up)"), 2);
    Due.same("if and else", Due.plan(x, "if 0000 is mud (up;if 0 is bog (left)else(right 2)) else (down);up"), 3);
    Due.same("six within one another", Due.plan(x, nested(6)), 4);
    Due.same("forty steps", Due.plan(x, steps(40)), 5);
    Due.same("a new map", x.map(2, 2), 4);
    Due.same("count(11)", x.count(11), 0);
  }

  private static String nested(int n) {
    StringBuilder s = new StringBuilder();
    for (int i = 0; i < n; i++) s.append("if 0 is rock(");
    s.append("up");
    for (int i = 0; i < n; i++) s.append(')');
    return s.toString();
  }

  private static String steps(int n) {
    StringBuilder s = new StringBuilder("up");
    for (int i = 1; i < n; i++) s.append(";up");
    return s.toString();
  }

  private static void faults() {
    SoftWheels x = square();
    x.doubt(4);
    Due.planFault(x, "", 1, 0);
    Due.planFault(x, "  ", 1, 2);
    Due.planFault(x, "up;", 1, 3);
    Due.planFault(x, "up;;up", 1, 3);
    Due.planFault(x, "up down", 1, 3);
    Due.planFault(x, "up 1 1", 1, 5);
    Due.planFault(x, "up - 1", 1, 3);
    Due.planFault(x, "up)", 1, 2);
    Due.planFault(x, "(up)", 1, 0);
    Due.planFault(x, "upp", 1, 0);
    Due.planFault(x, "rock", 1, 0);
    Due.planFault(x, "Up", 1, 0);
    Due.planFault(x, "up;\n", 1, 3);
    Due.planFault(x, "1", 1, 0);
    Due.planFault(x, "up\u0000", 1, 2);
    Due.planFault(x, "up\u00ff", 1, 2);
    Due.planFault(x, "else (up)", 1, 0);
    Due.planFault(x, "if", 1, 2);
    Due.planFault(x, "if rock is 0 (up)", 1, 3);
    Due.planFault(x, "if 0 rock (up)", 1, 5);
    Due.planFault(x, "if 0 is up (up)", 1, 8);
    Due.planFault(x, "if 0 is else (up)", 1, 8);
    Due.planFault(x, "if 0 is 0 (up)", 1, 8);
    Due.planFault(x, "if 0 is rock up", 1, 13);
    Due.planFault(x, "if 0 is rock ()", 1, 14);
    Due.planFault(x, "if 0 is rock (up", 1, 16);
    Due.planFault(x, "if 0 is rock (up;)", 1, 17);
    Due.planFault(x, "if 0 is rock (up) up", 1, 18);
    Due.planFault(x, "if 0 is rock (up) else up", 1, 23);
    Due.planFault(x, "if 0 is rock (up) else (up) else (up)", 1, 28);
    Due.planFault(x, "if 0 is rock (up) else", 1, 22);
    Due.planFault(x, "if 0 is rock (up))", 1, 17);
    Due.planFault(x, "if 00000 is rock (up)", 1, 3);
    Due.planFault(x, "if 1 is rock (up)", 2, 3);
    Due.planFault(x, "if 9999", 2, 3);
    Due.planFault(x, "if 0 is sand (up)", 2, 8);
    Due.planFault(x, "if 0 is rocks", 2, 8);
    Due.planFault(x, "up 0", 4, 3);
    Due.planFault(x, "up 10;?", 4, 3);
    Due.planFault(x, steps(41), 5, 120);
    Due.planFault(x, steps(40) + ";down 0", 5, 120);
    Due.planFault(x, steps(40) + ";if", 5, 120);
    Due.planFault(x, steps(40) + ";rock", 1, 120);
    Due.planFault(x, steps(39) + ";if 0 is rock (up)", 5, 131);
    Due.planFault(x, nested(7), 5, 6 * 13 + 12);
    Due.same("where() when the latest was not refused", wherePast(x), -1);
    Due.same("fault() stays", x.fault(), 5);
    Due.same("a good one", Due.plan(x, "up"), 0);
    Due.same("fault() of it", x.fault(), 0);
  }

  private static int wherePast(SoftWheels x) {
    x.told(0, 0);
    return x.where();
  }

  private static void room() {
    SoftWheels x = square();
    for (int i = 0; i < 8; i++) Due.same("plan " + i, Due.plan(x, "right"), i);
    Due.feed(x, "up");
    Due.refused(x, "plan(30)", x.plan(30), 2);
    Due.same("the tape stays", x.count(13), 20);
    x.book(0);
    Due.same("fault() of the empty book", x.fault(), 1);
    Due.refused(x, "a ninth", Due.plan(x, "up"), 3);
    Due.same("fault()", x.fault(), 0);
    Due.same("where()", x.where(), -1);
    Due.same("count(13)", x.count(13), 0);
    Due.planFault(x, "up 0", 4, 3);
    Due.same("count(11)", x.count(11), 8);
    Due.same("the eight stay", x.costs(7, 0, 1), 11);
  }

  private static void first(SoftWheels x, int truth, int why, int made) {
    Due.same("first(0)", x.first(0), truth);
    Due.same("first(1)", x.first(1), why);
    Due.same("first(2)", x.first(2), made);
    Due.same("first(3)", x.first(3), -1);
    Due.same("first(-1)", x.first(-1), -1);
  }

  private static void moves() {
    SoftWheels x = square();
    Due.same("first(0) ahead of any", x.first(0), -1);
    Due.plan(x, "right 2; down; left; up");
    Due.same("costs(0, 0, 1)", x.costs(0, 0, 1), 55);
    Due.same("trouble()", x.trouble(), 0);
    Due.same("failing(0, 0, 1, 55)", x.failing(0, 0, 1, 55), 0);
    first(x, -2, -2, -2);
    Due.same("failing(0, 0, 1, 54)", x.failing(0, 0, 1, 54), 1);
    first(x, 0, 7, 5);
    Due.same("failing elsewhere", x.failing(0, 0, 2, 54), 1);
    first(x, 0, 6, 5);
    Due.refused(x, "costs elsewhere", x.costs(0, 0, 2), 6);
    first(x, 0, 6, 5);
    x.ground(5, 1);
    Due.same("costs over mud", x.costs(0, 0, 1), 235);
    Due.plan(x, "right 2; left 2");
    Due.same("there and back", x.costs(1, 3, 3), 11 + 191 + 22);
  }

  /** A doubt in the midst of a lane: rock, mud or bog. */
  private static SoftWheels lane() {
    SoftWheels x = Due.withBook(ROCK);
    x.map(5, 2);
    x.doubt(2);
    x.weigh(0, 1, 1);
    x.weigh(0, 2, 1);
    return x;
  }

  private static void ifs() {
    SoftWheels x = lane();
    Due.plan(x, "right;if 0 is rock (right 3) else (if 0 is mud (right; right 2) else (down;right 2;up;right))");
    Due.same("costs(0, 0, 4)", x.costs(0, 0, 4), 44 + 180);
    Due.same("failing(0, 0, 4, 224)", x.failing(0, 0, 4, 224), 0);
    Due.same("failing(0, 0, 4, 66)", x.failing(0, 0, 4, 66), 1);
    first(x, 1, 7, 4);
    Due.same("failing(0, 0, 4, 65)", x.failing(0, 0, 4, 65), 2);
    Due.same("failing(0, 0, 4, 43)", x.failing(0, 0, 4, 43), 3);
    first(x, 0, 7, 4);
    x.told(0, 2);
    Due.same("costs(0, 0, 4) when it is bog", x.costs(0, 0, 4), 66);
    Due.same("failing(0, 0, 4, 66)", x.failing(0, 0, 4, 66), 0);
    x.forget(0);
    Due.plan(x, "if 0 is bog (right)");
    Due.same("not seen", x.failing(1, 0, 1, 0), 3);
    first(x, 0, 5, 0);
    Due.refused(x, "costs of it", x.costs(1, 0, 1), 6);
    x.told(0, 2);
    Due.same("known at first", x.costs(1, 0, 1), 11);
    x.told(0, 1);
    Due.same("an if without else goes on behind it", x.costs(1, 0, 0), 0);
    x.forget(0);
    Due.plan(x, "right;left;if 0 is ice (up) else (right 0001)");
    Due.same("seen before, and of no weight", x.costs(2, 0, 1), 33);
    Due.plan(x, "if 0 is rock (left);if 0 is mud (left);if 0 is bog (left)");
    Due.same("seen at the beginning, below it", x.costs(3, 7, 6), 11);
    Due.same("on it", x.costs(3, 2, 1), 11);
    Due.same("beside it", x.failing(3, 3, 2, 9999), 1);
    first(x, 2, 3, 0);
    Due.same("two away", x.failing(3, 4, 3, 9999), 3);
    first(x, 0, 5, 0);
  }

  private static void reasons() {
    SoftWheels x = lane();
    x.height(9, 101);
    Due.plan(x, "right 2");
    Due.same("into bog", x.failing(0, 0, 2, 9999), 1);
    first(x, 2, 3, 1);
    Due.same("off the map", x.failing(0, 3, 4, 9999), 3);
    first(x, 0, 1, 1);
    Due.same("too steep", x.failing(0, 7, 9, 9999), 3);
    first(x, 0, 2, 1);
    Due.refused(x, "costs of it", x.costs(0, 7, 9), 6);
    x.height(6, 1);
    x.ground(6, 3);
    Due.plan(x, "right 2;up");
    Due.same("no hold", x.failing(1, 5, 2, 9999), 3);
    first(x, 0, 4, 0);
    Due.plan(x, "right 9");
    Due.same("off the map behind four", x.failing(2, 0, 4, 9999), 3);
    first(x, 0, 1, 4);
    x.told(0, 2);
    Due.same("one truth", x.failing(2, 0, 4, 9999), 1);
    first(x, 0, 3, 1);
    Due.plan(x, "left");
    x.ground(0, 2);
    Due.same("into the first cell: bog", x.failing(3, 1, 0, 9999), 1);
    first(x, 0, 3, 0);
    x.height(0, 101);
    Due.same("into the first cell: too steep", x.failing(3, 1, 0, 9999), 1);
    first(x, 0, 2, 0);
  }

  private static void bounds() {
    SoftWheels x = square();
    Due.plan(x, "right");
    Due.same("bound 0", x.failing(0, 0, 1, 0), 1);
    Due.same("bound 10", x.failing(0, 0, 1, 10), 1);
    Due.same("bound 11", x.failing(0, 0, 1, 11), 0);
    Due.same("bound 9999999", x.failing(0, 0, 1, 9999999), 0);
    Due.refused(x, "bound 10000000", x.failing(0, 0, 1, 10000000), 2);
    Due.refused(x, "bound -1", x.failing(0, 0, 1, -1), 2);
    first(x, -2, -2, -2);
    x.failing(0, 0, 2, 0);
    first(x, 0, 6, 1);
    x.map(3, 3);
    first(x, 0, 6, 1);
  }

  private static void wrongInputs() {
    SoftWheels x = new SoftWheels();
    Due.refused(x, "failing without map", x.failing(0, 0, 0, -1), 1);
    Due.refused(x, "costs without map", x.costs(0, 0, 0), 1);
    x = square();
    Due.refused(x, "failing without plan", x.failing(0, 0, 0, 0), 1);
    Due.plan(x, "right");
    int[][] bad = {{1, 0, 0}, {-1, 0, 0}, {0, -1, 0}, {0, 9, 0}, {0, 0, -1}, {0, 0, 9}};
    for (int[] b : bad) {
      Due.refused(x, "failing(" + b[0] + ", " + b[1] + ", " + b[2] + ")", x.failing(b[0], b[1], b[2], 0), 1);
      Due.refused(x, "costs(" + b[0] + ", " + b[1] + ", " + b[2] + ")", x.costs(b[0], b[1], b[2]), 1);
    }
    Due.refused(x, "no plan and no bound", x.failing(1, 0, 0, -1), 1);
    first(x, -1, -1, -1);
  }
}
