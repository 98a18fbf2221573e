/** Promises 10 to 17: the map, heights, grounds, doubts and what is known of them. */
public final class MapTest {
  private static final String FIVE = "ground a sinks 0 0 grips 0 9;ground b sinks 0 1 grips 0 9;ground c sinks 0 2 grips 0 9;"
      + "ground d sinks 0 3 grips 0 9;ground e sinks 0 4 grips 0 9";

  public static void main(String[] args) {
    maps();
    heightsAndGrounds();
    doubts();
    weights();
    tellingAndForgetting();
    Due.end("MapTest");
  }

  private static void maps() {
    SoftWheels x = Due.withBook(FIVE);
    int[][] bad = {{0, 1}, {1, 0}, {11, 1}, {1, 11}, {-1, -1}, {Integer.MAX_VALUE, 2}, {Integer.MIN_VALUE, 1}};
    for (int[] b : bad) Due.refused(x, "map(" + b[0] + ", " + b[1] + ")", x.map(b[0], b[1]), 2);
    Due.same("count(8)", x.count(8), 0);
    Due.same("map(1, 1)", x.map(1, 1), 1);
    Due.same("map(10, 10)", x.map(10, 10), 100);
    Due.same("trouble()", x.trouble(), 0);
    Due.same("of(99, 0)", x.of(99, 0), 0);
    Due.same("of(100, 0)", x.of(100, 0), -1);
    x.height(5, 7);
    x.ground(5, 2);
    x.doubt(6);
    Due.plan(x, "right");
    x.dead(1);
    x.dig(1, 1);
    Due.refused(x, "map(10, 11)", x.map(10, 11), 2);
    Due.same("of(5, 0) stays", x.of(5, 0), 7);
    Due.same("map(4, 2)", x.map(4, 2), 8);
    Due.same("of(5, 0)", x.of(5, 0), 0);
    Due.same("of(5, 1)", x.of(5, 1), 0);
    Due.same("of(6, 2)", x.of(6, 2), -2);
    Due.same("doubts", x.count(9), 0);
    Due.same("plans", x.count(11), 0);
    Due.same("dead stay", x.count(7), 1);
    Due.same("dug stays", x.count(12), 1);
    Due.same("truths()", x.truths(), 1);
  }

  private static void heightsAndGrounds() {
    SoftWheels x = Due.withBook(FIVE);
    Due.refused(x, "height(0, -1) without map", x.height(0, -1), 1);
    Due.refused(x, "ground(0, 0) without map", x.ground(0, 0), 1);
    Due.same("of(0, 0) without map", x.of(0, 0), -1);
    x.map(3, 2);
    Due.refused(x, "height(-1, 0)", x.height(-1, 0), 1);
    Due.refused(x, "height(6, 1000)", x.height(6, 1000), 1);
    Due.refused(x, "height(0, -1)", x.height(0, -1), 2);
    Due.refused(x, "height(0, 1000)", x.height(0, 1000), 2);
    Due.same("height(5, 999)", x.height(5, 999), true);
    Due.same("trouble()", x.trouble(), 0);
    Due.same("of(5, 0)", x.of(5, 0), 999);
    Due.same("of(4, 0)", x.of(4, 0), 0);
    Due.refused(x, "ground(6, 0)", x.ground(6, 0), 1);
    Due.refused(x, "ground(-1, 0)", x.ground(-1, 0), 1);
    Due.refused(x, "ground(0, 5)", x.ground(0, 5), 1);
    Due.refused(x, "ground(0, -1)", x.ground(0, -1), 1);
    Due.same("ground(3, 4)", x.ground(3, 4), true);
    Due.same("of(3, 1)", x.of(3, 1), 4);
    Due.same("of(3, 2)", x.of(3, 2), -2);
    Due.same("of(3, 3)", x.of(3, 3), -1);
    Due.same("of(3, -1)", x.of(3, -1), -1);
    Due.same("of(-1, 0)", x.of(-1, 0), -1);
    x.doubt(3);
    Due.refused(x, "ground(3, 0) of a doubt", x.ground(3, 0), 5);
    Due.refused(x, "ground(3, 9) of a doubt", x.ground(3, 9), 1);
    Due.same("height(3, 1) of a doubt", x.height(3, 1), true);
    Due.same("of(3, 0)", x.of(3, 0), 1);
  }

  private static void doubts() {
    SoftWheels x = Due.withBook(FIVE);
    Due.refused(x, "doubt(0) without map", x.doubt(0), 1);
    x.map(3, 3);
    x.ground(4, 3);
    Due.refused(x, "doubt(9)", x.doubt(9), 1);
    Due.refused(x, "doubt(-1)", x.doubt(-1), 1);
    Due.same("doubt(4)", x.doubt(4), 0);
    Due.same("trouble()", x.trouble(), 0);
    Due.same("of(4, 1)", x.of(4, 1), -2);
    Due.same("of(4, 2)", x.of(4, 2), 0);
    Due.same("truth(0, 0): its ground alone", x.truth(0, 0), 3);
    Due.refused(x, "doubt(4) again", x.doubt(4), 5);
    for (int i = 1; i < 5; i++) Due.same("doubt(" + i * 2 + ")", x.doubt(i == 2 ? 0 : i * 2), i);
    Due.refused(x, "a sixth", x.doubt(1), 3);
    Due.refused(x, "a sixth, of a cell that has one", x.doubt(4), 5);
    Due.refused(x, "a sixth, of no cell", x.doubt(9), 1);
    Due.same("count(9)", x.count(9), 5);
    Due.same("count(10)", x.count(10), 5);
    Due.same("of(0, 2)", x.of(0, 2), 2);
    Due.same("truths()", x.truths(), 1);
  }

  private static void weights() {
    SoftWheels x = Due.withBook(FIVE);
    Due.refused(x, "weigh(0, 0, 1) without map", x.weigh(0, 0, 1), 1);
    x.map(3, 3);
    Due.refused(x, "weigh(0, 0, 1) without doubt", x.weigh(0, 0, 1), 1);
    x.doubt(4);
    Due.refused(x, "weigh(1, 0, 1)", x.weigh(1, 0, 1), 1);
    Due.refused(x, "weigh(-1, 0, 1)", x.weigh(-1, 0, 1), 1);
    Due.refused(x, "weigh(0, 5, 1)", x.weigh(0, 5, 1), 1);
    Due.refused(x, "weigh(0, -1, 10)", x.weigh(0, -1, 10), 1);
    Due.refused(x, "weigh(0, 0, 10)", x.weigh(0, 0, 10), 2);
    Due.refused(x, "weigh(0, 0, -1)", x.weigh(0, 0, -1), 2);
    Due.refused(x, "none above 0", x.weigh(0, 0, 0), 5);
    Due.same("weigh(0, 4, 0) is 0 already", x.weigh(0, 4, 0), true);
    Due.same("weigh(0, 4, 9)", x.weigh(0, 4, 9), true);
    Due.same("weigh(0, 2, 1)", x.weigh(0, 2, 1), true);
    Due.same("truths()", x.truths(), 3);
    Due.refused(x, "a fourth", x.weigh(0, 1, 1), 5);
    Due.same("one of the three anew", x.weigh(0, 2, 7), true);
    Due.same("weigh(0, 1, 0)", x.weigh(0, 1, 0), true);
    Due.same("weigh(0, 0, 0)", x.weigh(0, 0, 0), true);
    Due.same("truths()", x.truths(), 2);
    Due.same("truth(0, 0)", x.truth(0, 0), 2);
    Due.same("truth(1, 0)", x.truth(1, 0), 4);
    x.told(0, 4);
    Due.refused(x, "known to be of that one, and 0", x.weigh(0, 4, 0), 5);
    Due.same("known to be of that one, and 1", x.weigh(0, 4, 1), true);
    Due.same("another one may be 0", x.weigh(0, 2, 0), true);
    Due.same("of(4, 1)", x.of(4, 1), 4);
    x.forget(0);
    Due.same("truths()", x.truths(), 1);
    Due.same("truth(0, 0)", x.truth(0, 0), 4);
  }

  private static void tellingAndForgetting() {
    SoftWheels x = Due.withBook(FIVE);
    Due.refused(x, "told(0, 0) without map", x.told(0, 0), 1);
    Due.refused(x, "forget(0) without map", x.forget(0), 1);
    x.map(2, 2);
    x.doubt(1);
    x.doubt(2);
    x.weigh(0, 3, 2);
    Due.refused(x, "told(2, 0)", x.told(2, 0), 1);
    Due.refused(x, "told(-1, 0)", x.told(-1, 0), 1);
    Due.refused(x, "told(0, 5)", x.told(0, 5), 1);
    Due.refused(x, "told(0, -1)", x.told(0, -1), 1);
    Due.refused(x, "told(0, 1) of weight 0", x.told(0, 1), 5);
    Due.refused(x, "forget(0) while open", x.forget(0), 5);
    Due.refused(x, "forget(2)", x.forget(2), 1);
    Due.refused(x, "forget(-1)", x.forget(-1), 1);
    Due.same("told(0, 3)", x.told(0, 3), true);
    Due.same("trouble()", x.trouble(), 0);
    Due.same("of(1, 1)", x.of(1, 1), 3);
    Due.same("of(1, 2)", x.of(1, 2), 0);
    Due.same("count(10)", x.count(10), 1);
    Due.same("told(0, 0) instead", x.told(0, 0), true);
    Due.same("of(1, 1)", x.of(1, 1), 0);
    Due.same("forget(0)", x.forget(0), true);
    Due.same("of(1, 1)", x.of(1, 1), -2);
    Due.same("count(10)", x.count(10), 2);
  }
}
