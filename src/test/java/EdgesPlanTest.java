/** The edges of promises 4, 29, 30, 31 and of the text of a plan: a test for each sentence that names one. */
public final class EdgesPlanTest {
  private static final int LEAST = Integer.MIN_VALUE;
  private static final int MOST = Integer.MAX_VALUE;
  /** On the level a step costs 11 onto rock and ice, 191 onto mud, and can't be onto bog; onto ice never uphill. */
  private static final String ROCK = "ground rock sinks 0 0 grips 0 80;ground mud sinks 0 90 grips 0 0, 90 9;"
      + "ground bog sinks 0 101 grips 0 0;ground ice sinks 0 0 grips 0 0;try dig each 0 one -1 cost 1";

  public static void main(String[] args) {
    planRefused();
    planNumbers();
    firstBytes();
    ninthPlan();
    moves();
    ifs();
    names();
    fortySteps();
    sixOpen();
    firstFromTheLeft();
    form();
    failingRefused();
    bounds();
    whyItFails();
    seenOrKnown();
    branches();
    firstTold();
    costs();
    costsRefused();
    Due.end("EdgesPlanTest");
  }

  /** Three by three, all rock, with a doubt in the midst: rock, mud or bog. */
  private static SoftWheels square() {
    SoftWheels x = Due.withBook(ROCK);
    x.map(3, 3);
    x.doubt(4);
    x.weigh(0, 1, 1);
    x.weigh(0, 2, 1);
    return x;
  }

  private static void good(SoftWheels x, String text) {
    if (x.count(11) == 8) x.map(3, 3);
    if (x.count(9) == 0) x.doubt(4);
    int due = x.count(11);
    Due.same("plan \"" + text + "\"", Due.plan(x, text), due);
    Due.same("trouble() of \"" + text + "\"", x.trouble(), 0);
    Due.same("fault() of \"" + text + "\"", x.fault(), 0);
    Due.same("where() of \"" + text + "\"", x.where(), -1);
  }

  private static void first(SoftWheels x, int truth, int why, int made) {
    Due.same("first(0)", x.first(0), truth);
    Due.same("first(1)", x.first(1), why);
    Due.same("first(2)", x.first(2), made);
  }

  private static void planRefused() {
    Due.edge("promise 4", "NONE: 1 (no MAP; THE TAPE stays)");
    SoftWheels x = new SoftWheels();
    Due.feed(x, "right");
    for (int n : new int[] {5, 20, 0, -1, 21, LEAST, MOST}) {
      Due.refused(x, "plan(" + n + ") without book", x.plan(n), 1);
      Due.same("count(13)", x.count(13), 20);
    }
    x.book(0);
    Due.book(x, ROCK);
    Due.feed(x, "right");
    for (int n : new int[] {5, 20, 0, -1, 21}) {
      Due.refused(x, "plan(" + n + ") without map", x.plan(n), 1);
      Due.same("count(13)", x.count(13), 20);
    }
    Due.edge("promise 4", "2 (THE TAPE stays)");
    x.map(3, 3);
    for (int n : new int[] {-1, 21, 501, LEAST, MOST}) {
      Due.refused(x, "plan(" + n + ")", x.plan(n), 2);
      Due.same("count(13)", x.count(13), 20);
    }
    Due.same("what stayed is read", x.plan(20), 0);
    Due.refused(x, "plan(1) of the empty tape", x.plan(1), 2);
    Due.edge("promise 4", "4: THE TAPE is empty, and no PLAN comes");
    for (String bad : new String[] {"", "rock", "up;", "up 0", "if 0 is rock (up)"}) {
      Due.refused(x, "plan \"" + bad + "\"", Due.plan(x, bad), 4);
      Due.same("count(13)", x.count(13), 0);
      Due.same("count(11)", x.count(11), 1);
    }
    Due.same("the next one's number", Due.plan(x, "down"), 1);
    Due.same("the first one stays", x.costs(0, 0, 1), 11);
    Due.same("the book stays", x.count(0), 4);
    Due.same("the map stays", x.count(8), 9);
  }

  private static void planNumbers() {
    Due.edge("promise 4", "Likewise a PLAN (up to 8): its number");
    SoftWheels x = square();
    String[] ways = {"right", "down", "right;down", "down 2", "right 2", "right;left", "down;right", "right 2;down 2"};
    int[] ends = {1, 3, 4, 6, 2, 0, 4, 8};
    for (int i = 0; i < 8; i++) {
      Due.same("plan " + i, Due.plan(x, ways[i]), i);
      Due.same("trouble()", x.trouble(), 0);
      Due.same("count(11)", x.count(11), i + 1);
    }
    x.told(0, 0);
    for (int i = 0; i < 8; i++) Due.that("plan " + i + " is its own", x.costs(i, 0, ends[i]) > 0);
    Due.edge("promise 10", "no PLANS: they begin at 0 again");
    x.map(3, 3);
    Due.same("plan", Due.plan(x, "up"), 0);
  }

  private static void firstBytes() {
    Due.edge("promise 4", "Likewise: The first n bytes of THE TAPE (it is empty then)");
    SoftWheels x = square();
    Due.feed(x, "right 12");
    Due.same("without the last byte", x.plan(7), 0);
    Due.same("count(13)", x.count(13), 0);
    Due.same("once", x.costs(0, 0, 1), 11);
    Due.feed(x, "right?");
    Due.same("without what begins no token", x.plan(5), 1);
    Due.feed(x, "right");
    Due.refused(x, "a word that is cut", x.plan(4), 4);
    Due.same("where()", x.where(), 0);
    Due.refused(x, "plan(0)", x.plan(0), 4);
    Due.same("where()", x.where(), 0);
  }

  private static void ninthPlan() {
    Due.edge("promise 4", "3");
    SoftWheels x = square();
    for (int i = 0; i < 8; i++) Due.plan(x, "right");
    Due.refused(x, "a ninth", Due.plan(x, "down"), 3);
    Due.same("count(13)", x.count(13), 0);
    Due.same("count(11)", x.count(11), 8);
    Due.same("fault()", x.fault(), 0);
    Due.same("where()", x.where(), -1);
    for (int i = 0; i < 8; i++) Due.same("plan " + i + " stays", x.costs(i, 0, 1), 11);
    Due.refused(x, "costs(8, 0, 3)", x.costs(8, 0, 3), 1);
    Due.refused(x, "once more", Due.plan(x, "down"), 3);
    Due.edge("promise 4", "4 stands ahead of 3, 2 ahead of both");
    Due.refused(x, "a ninth with a fault", Due.plan(x, "down 0"), 4);
    Due.same("where()", x.where(), 5);
    Due.refused(x, "a ninth of too many bytes", x.plan(1), 2);
    x.map(3, 3);
    Due.same("room again on a new map", Due.plan(x, "down"), 0);
  }

  private static void moves() {
    Due.edge("terms I", "STEP: right, left, up or down, behind it perhaps WHOLE (so many times, 1 .. 9)");
    SoftWheels x = Due.withBook(ROCK);
    x.map(10, 10);
    x.doubt(99);
    String[] ways = {"right", "left", "up", "down"};
    int[] steps = {1, -1, -10, 10};
    for (int w = 0; w < 4; w++) {
      for (int n = 1; n <= 9; n++) {
        if (x.count(11) == 8) x.map(10, 10);
        int from = steps[w] > 0 ? 0 : 99;
        int p = Due.plan(x, ways[w] + " " + n);
        Due.same(ways[w] + " " + n, x.costs(p, from, from + n * steps[w]), 11 * n);
      }
      x.map(10, 10);
      int p = Due.plan(x, ways[w]);
      Due.same(ways[w] + " once", x.costs(p, 55, 55 + steps[w]), 11);
      p = Due.plan(x, ways[w] + "0009");
      Due.same(ways[w] + " 0009", x.costs(p, steps[w] > 0 ? 0 : 99, steps[w] > 0 ? 9 * steps[w] : 99 + 9 * steps[w]), 99);
      Due.badPlan(x, 4, ways[w] + " ^0");
      Due.badPlan(x, 4, ways[w] + " ^10");
      Due.badPlan(x, 4, ways[w] + " ^0000");
      Due.badPlan(x, 4, ways[w] + " ^9999");
      Due.badPlan(x, 1, ways[w] + " ^00001");
      Due.badPlan(x, 1, ways[w] + " ^-1");
      Due.badPlan(x, 1, ways[w] + " 1 ^1");
      Due.badPlan(x, 1, ways[w] + " ^" + ways[w]);
    }
  }

  private static void ifs() {
    Due.edge("terms I", "if DOUBT is NAME ( PLAN ), behind it perhaps else ( PLAN )");
    SoftWheels x = square();
    good(x, "if 0 is rock(up)");
    good(x, "if 0 is rock (up) else (down)");
    good(x, "if 0 is rock (up;down 2;left) else (down;up);right");
    good(x, "if 0 is rock (if 0 is mud (up)) else (if 0 is mud (up) else (down));if 0 is bog (up)");
    Due.badPlan(x, 1, "if 0 is rock (^)");
    Due.badPlan(x, 1, "if 0 is rock (up) else (^)");
    Due.badPlan(x, 1, "if 0 is rock (up;^)");
    Due.badPlan(x, 1, "if 0 is rock (up) ^2");
    Due.badPlan(x, 1, "if 0 is rock ^2");
    Due.badPlan(x, 1, "if 0 is rock (up)^(down)");
    Due.badPlan(x, 1, "if 0 is rock (up) ^up");
    Due.badPlan(x, 1, "if 0 is rock (up) else ^down");
    Due.badPlan(x, 1, "if 0 is rock (up) else (up) ^else (up)");
    Due.badPlan(x, 1, "if 0 is rock (up) ^, up");
    Due.badPlan(x, 1, "up ^else (up)");
    Due.badPlan(x, 1, "^(up)");
    Due.badPlan(x, 1, "up^)");
    Due.badPlan(x, 1, "if 0 is rock (up)^)");
    Due.badPlan(x, 1, "if ^-0 is rock (up)");
    Due.badPlan(x, 1, "if 0 ^rock (up)");
    Due.badPlan(x, 1, "if 0 is ^0 (up)");
    Due.badPlan(x, 1, "^else (up)");
    Due.badPlan(x, 1, "^is");
  }

  private static void names() {
    SoftWheels x = square();
    Due.edge("terms I", "2 a NAME that is no GROUND, ... at it");
    Due.badPlan(x, 2, "if 0 is ^sand (up)");
    Due.badPlan(x, 2, "if 0 is ^dig (up)");
    Due.badPlan(x, 2, "if 0 is ^roc (up)");
    Due.badPlan(x, 2, "if 0 is ^rocks (up)");
    Due.badPlan(x, 2, "if 0 is ^sinks");
    Due.badPlan(x, 2, "if 0 is rock (up) else (if 0 is ^abcdefgh (up))");
    for (String name : new String[] {"rock", "mud", "bog", "ice"}) good(x, "if 0 is " + name + " (up)");
    Due.edge("terms I", "NAMES are WORDS but ground, rover, try, if, is, else, right, left, up, down: in a PLAN, too");
    for (String kept : new String[] {"ground", "rover", "try", "if", "is", "else", "right", "left", "up", "down", "abcdefghi"}) {
      Due.badPlan(x, 1, "if 0 is ^" + kept + " (up)");
    }
    Due.edge("terms I", "a DOUBT that there isn't; at it");
    SoftWheels y = Due.withBook(ROCK);
    y.map(3, 3);
    Due.badPlan(y, 2, "if ^0 is rock (up)");
    for (int d = 0; d < 5; d++) {
      y.doubt(d);
      Due.same("if of the last one", Due.plan(y, "if " + d + " is rock (up)"), d);
      Due.badPlan(y, 2, "if ^" + (d + 1) + " is rock (up)");
    }
    Due.badPlan(y, 2, "if ^9999");
    Due.badPlan(y, 2, "if ^0005 is rock (up)");
    Due.badPlan(y, 1, "if ^00000 is rock (up)");
    Due.same("0004 is 4", Due.plan(y, "if 0004 is rock (up)"), 5);
    y.told(4, 0);
    Due.same("of a known one", Due.plan(y, "if 4 is rock (up)"), 6);
  }

  private static String ups(int n) {
    return "up" + ";up".repeat(n - 1);
  }

  private static void fortySteps() {
    Due.edge("terms I", "Up to 40 STEPS in all");
    SoftWheels x = square();
    good(x, ups(40));
    Due.badPlan(x, 5, ups(40) + ";^up");
    Due.badPlan(x, 5, ups(40) + ";^down 0");
    Due.badPlan(x, 5, ups(40) + ";^if");
    good(x, ups(39).replace("up", "up 9"));
    Due.edge("terms I", "Up to 40 STEPS in all: an if is one, and so are those in it");
    good(x, ups(38) + ";if 0 is rock (up)");
    Due.badPlan(x, 5, ups(39) + ";if 0 is rock (^up)");
    Due.badPlan(x, 5, ups(38) + ";if 0 is rock (up) else (^up)");
    good(x, ups(37) + ";if 0 is rock (up) else (up)");
    Due.badPlan(x, 5, ups(37) + ";if 0 is rock (up) else (up);^up");
    good(x, "if 0 is rock (" + ups(38) + ");up");
    Due.badPlan(x, 5, "if 0 is rock (" + ups(38) + ");up;^left");
    Due.badPlan(x, 5, "if 0 is rock (" + ups(39) + ";^down)");
    good(x, "if 0 is ice (up) else (up);".repeat(13) + "up");
    Due.badPlan(x, 5, "if 0 is ice (up) else (up);".repeat(13) + "up;^up");
  }

  private static String nested(int n, String inner, String behind) {
    return "if 0 is ice (".repeat(n) + inner + (")" + behind).repeat(n);
  }

  private static void sixOpen() {
    Due.edge("terms I", "6 ( within one another");
    SoftWheels x = square();
    for (int n = 1; n <= 6; n++) good(x, nested(n, "up", ""));
    Due.badPlan(x, 5, "if 0 is ice (".repeat(6) + "if 0 is ice ^(up)))))))");
    Due.badPlan(x, 5, "if 0 is ice (".repeat(6) + "if 0 is ice ^(");
    Due.badPlan(x, 5, "if 0 is ice (".repeat(5) + "if 0 is ice (up) else (if 0 is ice ^(up");
    good(x, nested(6, "up", " else (up)"));
    good(x, nested(6, "up;up", "") + ";" + nested(6, "up", ""));
    good(x, "if 0 is ice (up) else (".repeat(6) + "up" + ")".repeat(6));
    Due.badPlan(x, 5, "if 0 is ice (up) else (".repeat(6) + "if 0 is ice ^(up" + ")".repeat(7));
    Due.badPlan(x, 1, "if 0 is ice (".repeat(6) + "if 0 is ice ^up");
    Due.badPlan(x, 1, "if 0 is ice (".repeat(6) + "up)))))^");
  }

  private static void firstFromTheLeft() {
    Due.edge("terms I", "FAULTS, the first that is met from the left (in a PLAN)");
    SoftWheels x = square();
    Due.badPlan(x, 4, "up ^0;?");
    Due.badPlan(x, 1, "up ^?;up 0");
    Due.badPlan(x, 2, "if ^1 is sand (up 0)");
    Due.badPlan(x, 2, "if 0 is ^sand (up 0)");
    Due.badPlan(x, 4, "up ^10;if 1 is sand (up 0)");
    Due.badPlan(x, 5, ups(40) + ";^if 1 is sand (up 0)");
    Due.badPlan(x, 4, ups(39) + ";up ^0;up");
    Due.badPlan(x, 2, "if 0 is ice (".repeat(6) + "if 0 is ^sand (up");
    Due.edge("terms I", "of one place the least number (in a PLAN)");
    Due.badPlan(x, 1, ups(40) + ";^rock");
    Due.badPlan(x, 1, ups(40) + ";^");
    Due.badPlan(x, 1, ups(40) + ";^?");
    Due.badPlan(x, 1, "if ^12345 is rock (up)");
  }

  private static void form() {
    SoftWheels x = square();
    String[] tokens = {"right", " 2", ";", "if", " 0", " is", " rock", " (", "up", ";", "left", ")", " else", " (", "down", ")", ";", "up"};
    Due.edge("terms I", "1 FORM: the first byte that begins no TOKEN, or TOKEN with which no PLAN goes on");
    StringBuilder text = new StringBuilder();
    for (String token : tokens) {
      for (String odd : new String[] {",", "-", "#", "\u0000", "\u00ff", "\t", "sinks", "A"}) {
        // A name that is no ground is a fault of its own.
        if (!odd.equals("sinks") || !text.toString().endsWith(" is")) Due.badPlan(x, 1, text + " ^" + odd);
      }
      text.append(token);
    }
    good(x, text.toString());
    Due.edge("terms I", "(the end: its place) (in a PLAN)");
    text.setLength(0);
    int open = 0;
    for (String token : tokens) {
      String told = text.toString();
      boolean ends = open == 0 && told.matches(".*(right| 2|left\\)|down\\))");
      if (ends) {
        good(x, told);
      } else {
        Due.badPlan(x, 1, told + "^");
        Due.badPlan(x, 1, told + "   ^");
      }
      if (token.endsWith("(")) open++;
      if (token.endsWith(")")) open--;
      text.append(token);
    }
  }

  private static void failingRefused() {
    Due.edge("promise 29", "NONE: 1");
    SoftWheels none = new SoftWheels();
    Due.refused(none, "failing without book", none.failing(0, 0, 0, 0), 1);
    SoftWheels x = square();
    Due.refused(x, "failing without plan", x.failing(0, 0, 0, 0), 1);
    Due.plan(x, "right");
    Due.plan(x, "left");
    for (int b : new int[] {-1, 2, 8, 9, LEAST, MOST}) {
      Due.refused(x, "failing(" + b + ", 0, 1, 0)", x.failing(b, 0, 1, 0), 1);
      Due.refused(x, "failing(" + b + ", 0, 1, -1): 1 stands first", x.failing(b, 0, 1, -1), 1);
    }
    for (int b : new int[] {-1, 9, 100, LEAST, MOST}) {
      Due.refused(x, "failing(0, " + b + ", 1, 0)", x.failing(0, b, 1, 0), 1);
      Due.refused(x, "failing(0, 0, " + b + ", 0)", x.failing(0, 0, b, 0), 1);
      Due.refused(x, "failing(0, 0, " + b + ", 10000000): 1 stands first", x.failing(0, 0, b, 10000000), 1);
    }
    Due.edge("promise 29", "2");
    for (int b : new int[] {-1, 10000000, LEAST, MOST}) Due.refused(x, "failing(0, 0, 1, " + b + ")", x.failing(0, 0, 1, b), 2);
    Due.edge("promise 30", "NONE ahead of any");
    first(x, -1, -1, -1);
  }

  private static void bounds() {
    Due.edge("promise 29", "by a bound (0 .. 9,999,999)");
    SoftWheels x = square();
    Due.plan(x, "right");
    Due.plan(x, "right;left");
    Due.same("failing(0, 0, 1, 9999999)", x.failing(0, 0, 1, 9999999), 0);
    Due.same("trouble()", x.trouble(), 0);
    Due.same("failing(0, 0, 1, 0)", x.failing(0, 0, 1, 0), 3);
    Due.edge("terms III", "7 its COST is above a bound");
    Due.same("failing(0, 0, 1, 11)", x.failing(0, 0, 1, 11), 0);
    first(x, -2, -2, -2);
    Due.same("failing(0, 0, 1, 10)", x.failing(0, 0, 1, 10), 3);
    first(x, 0, 7, 1);
    Due.same("failing(1, 0, 0, 21): told when it has ended", x.failing(1, 0, 0, 21), 3);
    first(x, 0, 7, 2);
    Due.same("failing(1, 0, 0, 22)", x.failing(1, 0, 0, 22), 0);
    Due.edge("terms III", "a COST of 0 is not above a bound of 0");
    x.doubt(0);
    x.told(1, 0);
    Due.plan(x, "if 1 is mud (up)");
    Due.same("failing(2, 8, 8, 0)", x.failing(2, 8, 8, 0), 0);
    Due.edge("terms III", "6 ahead of 7");
    Due.same("failing(0, 0, 2, 0)", x.failing(0, 0, 2, 0), 3);
    first(x, 0, 6, 1);
  }

  private static void whyItFails() {
    SoftWheels x = square();
    Due.edge("terms III", "1 to 4 a STEP CAN'T be");
    Due.plan(x, "right 3");
    Due.same("off the map", x.failing(0, 0, 2, 9999), 3);
    first(x, 0, 1, 2);
    Due.same("off the map, not to the next row", x.failing(0, 1, 4, 9999), 3);
    first(x, 0, 1, 1);
    x.height(2, 101);
    Due.same("too steep", x.failing(0, 0, 2, 9999), 3);
    first(x, 0, 2, 1);
    x.height(2, 0);
    x.ground(2, 2);
    Due.same("too deep", x.failing(0, 0, 2, 9999), 3);
    first(x, 0, 3, 1);
    x.ground(2, 3);
    x.height(2, 1);
    Due.same("no slip", x.failing(0, 0, 2, 9999), 3);
    first(x, 0, 4, 1);
    Due.same("in one truth of three", x.failing(0, 3, 5, 9999), 3);
    first(x, 0, 1, 2);
    Due.plan(x, "right 2");
    Due.same("in the last truth: bog", x.failing(1, 3, 5, 9999), 1);
    first(x, 2, 3, 0);
    Due.same("in the last two: mud above the bound", x.failing(1, 3, 5, 201), 2);
    first(x, 1, 7, 2);
    Due.same("in all", x.failing(1, 3, 5, 21), 3);
    first(x, 0, 7, 2);
    Due.edge("terms III", "6 it doesn't end at the goal");
    Due.same("it goes past it", x.failing(1, 3, 4, 9999), 3);
    first(x, 0, 6, 2);
    Due.same("elsewhere", x.failing(1, 6, 0, 9999), 3);
    first(x, 0, 6, 2);
    Due.same("back where it began", x.failing(1, 6, 6, 9999), 3);
  }

  private static void seenOrKnown() {
    Due.edge("terms III", "5 an if of a DOUBT that is not KNOWN and was not SEEN");
    SoftWheels x = square();
    Due.plan(x, "if 0 is rock (right;left)");
    // From each cell to itself: corners don't see the midst.
    boolean[] sees = {false, true, false, true, true, true, false, true, false};
    for (int c = 0; c < 9; c++) {
      int fails = x.failing(0, c, c, 9999);
      if (sees[c]) {
        Due.that("seen from " + c, x.first(1) != 5);
      } else {
        Due.same("not seen from " + c, fails, 3);
        first(x, 0, 5, 0);
      }
    }
    Due.plan(x, "right;left;if 0 is bog (right) else (down)");
    Due.same("it was seen ahead of it", x.failing(1, 0, 3, 9999), 1);
    first(x, 2, 6, 3);
    Due.plan(x, "down 2;right 2;if 0 is bog (up)");
    Due.same("seen on the way, from below", x.failing(2, 0, 8, 9999), 1);
    first(x, 2, 6, 5);
    Due.edge("terms III", "an if of a KNOWN DOUBT");
    for (int g = 0; g < 3; g++) {
      x.told(0, g);
      Due.same("failing(0, 0, 0, 22)", x.failing(0, 0, 0, 22), 0);
      Due.same("failing(0, 0, 0, 0)", x.failing(0, 0, 0, 0), g == 0 ? 1 : 0);
    }
    x.forget(0);
    Due.same("open again", x.failing(0, 0, 0, 9999), 3);
    Due.edge("terms III", "5: an if that it doesn't come to is none");
    SoftWheels y = square();
    y.doubt(8);
    Due.plan(y, "if 0 is bog (if 1 is rock (up))");
    Due.same("failing(0, 1, 1, 0)", y.failing(0, 1, 1, 0), 1);
    first(y, 2, 5, 0);
  }

  private static void branches() {
    Due.edge("terms III", "an if goes on in its first ( ) if that DOUBT is of that GROUND, else in the second");
    SoftWheels x = square();
    Due.plan(x, "if 0 is mud (up) else (down);right");
    x.told(0, 1);
    Due.same("the first", x.costs(0, 3, 1), 22);
    x.told(0, 0);
    Due.same("the second", x.costs(0, 3, 7), 22);
    x.told(0, 2);
    Due.same("the second", x.costs(0, 3, 7), 22);
    Due.edge("terms III", "(behind it without one)");
    Due.plan(x, "if 0 is mud (up;right);right");
    Due.same("behind it", x.costs(1, 6, 7), 11);
    x.told(0, 1);
    Due.same("in it, and behind it", x.costs(1, 3, 2), 33);
    Due.edge("terms III", "of a GROUND of WEIGHT 0 it never is");
    Due.plan(x, "if 0 is ice (up) else (down)");
    x.forget(0);
    Due.same("failing(2, 3, 6, 11)", x.failing(2, 3, 6, 11), 0);
  }

  private static void firstTold() {
    SoftWheels x = square();
    Due.plan(x, "right 2");
    Due.edge("promise 30", "NONE ahead of any");
    for (int what = -1; what < 4; what++) Due.same("first(" + what + ")", x.first(what), -1);
    Due.edge("promise 30", "what 0: the first TRUTH in which it FAILS, 1: why, 2: how many STEPS of the rover it had made");
    Due.same("failing(0, 3, 5, 202)", x.failing(0, 3, 5, 202), 1);
    first(x, 2, 3, 0);
    Due.same("failing(0, 3, 5, 100)", x.failing(0, 3, 5, 100), 2);
    first(x, 1, 7, 2);
    Due.edge("promise 30", "NONE for another what");
    for (int what : new int[] {-1, 3, LEAST, MOST}) Due.same("first(" + what + ")", x.first(what), -1);
    Due.edge("promise 30", "Of the latest failing() that told a number");
    Due.refused(x, "failing(1, 3, 5, 0)", x.failing(1, 3, 5, 0), 1);
    Due.refused(x, "failing(0, 3, 5, -1)", x.failing(0, 3, 5, -1), 2);
    Due.refused(x, "costs(0, 3, 5)", x.costs(0, 3, 5), 6);
    first(x, 1, 7, 2);
    Due.edge("promise 30", "(-2 of all if there is none)");
    Due.same("failing(0, 0, 2, 22)", x.failing(0, 0, 2, 22), 0);
    first(x, -2, -2, -2);
    Due.same("first(3)", x.first(3), -1);
    Due.refused(x, "failing(1, 3, 5, 0)", x.failing(1, 3, 5, 0), 1);
    first(x, -2, -2, -2);
  }

  private static void costs() {
    SoftWheels x = square();
    Due.edge("promise 31", "The greatest COST of a PLAN over TRUTHS");
    Due.plan(x, "if 0 is mud (right) else (up;right;down)");
    x.weigh(0, 2, 0);
    Due.same("costs(0, 3, 4): that of the last truth", x.costs(0, 3, 4), 191);
    Due.same("trouble()", x.trouble(), 0);
    // Mud or ice.
    x.weigh(0, 0, 0);
    x.weigh(0, 3, 1);
    Due.plan(x, "if 0 is ice (left) else (left;right;left)");
    Due.same("costs(1, 5, 4): that of the first truth", x.costs(1, 5, 4), 191 + 11 + 191);
    Due.edge("promise 31", "a COST of 0");
    x.told(0, 3);
    Due.plan(x, "if 0 is mud (up)");
    Due.same("costs(2, 0, 0)", x.costs(2, 0, 0), 0);
    Due.same("trouble()", x.trouble(), 0);
  }

  private static void costsRefused() {
    Due.edge("promise 31", "NONE: 1");
    SoftWheels none = new SoftWheels();
    Due.refused(none, "costs without book", none.costs(0, 0, 0), 1);
    SoftWheels x = square();
    Due.refused(x, "costs without plan", x.costs(0, 0, 0), 1);
    Due.plan(x, "right");
    for (int b : new int[] {-1, 1, 8, 9, LEAST, MOST}) Due.refused(x, "costs(" + b + ", 0, 1)", x.costs(b, 0, 1), 1);
    for (int b : new int[] {-1, 9, 100, LEAST, MOST}) {
      Due.refused(x, "costs(0, " + b + ", 1)", x.costs(0, b, 1), 1);
      Due.refused(x, "costs(0, 0, " + b + ")", x.costs(0, 0, b), 1);
    }
    Due.edge("promise 31", "6 (it FAILS in some, by 1 to 6)");
    Due.refused(x, "by 1", x.costs(0, 2, 2), 6);
    Due.refused(x, "by 3, in one of three", x.costs(0, 3, 4), 6);
    x.height(1, 101);
    Due.refused(x, "by 2", x.costs(0, 0, 1), 6);
    x.height(1, 1);
    x.ground(1, 3);
    Due.refused(x, "by 4", x.costs(0, 0, 1), 6);
    Due.plan(x, "if 0 is rock (up)");
    Due.refused(x, "by 5", x.costs(1, 0, 0), 6);
    Due.refused(x, "by 6", x.costs(0, 6, 6), 6);
    Due.refused(x, "by 6, in one of three", x.costs(1, 7, 7), 6);
    Due.same("it doesn't", x.costs(0, 6, 7), 11);
  }
}
