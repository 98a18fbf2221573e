/** The edges of promises 10 to 17, 22 and 23: a test for each sentence that names one. */
public final class EdgesMapTest {
  private static final int LEAST = Integer.MIN_VALUE;
  private static final int MOST = Integer.MAX_VALUE;
  private static final String FIVE = "ground a sinks 0 0 grips 0 9;ground b sinks 0 1 grips 0 9;ground c sinks 0 2 grips 0 9;"
      + "ground d sinks 0 3 grips 0 9;ground e sinks 0 4 grips 0 9";

  public static void main(String[] args) {
    sizes();
    newMap();
    mapRefused();
    heights();
    grounds();
    doubts();
    doubtRefused();
    weights();
    weighRefused();
    telling();
    forgetting();
    ofCells();
    howManyTruths();
    truthNumbers();
    Due.end("EdgesMapTest");
  }

  private static SoftWheels five(int wide, int high) {
    SoftWheels x = Due.withBook(FIVE);
    Due.same("map(" + wide + ", " + high + ")", x.map(wide, high), wide * high);
    return x;
  }

  private static void sizes() {
    Due.edge("terms III", "wide 1 .. 10 times high 1 .. 10 CELLS");
    SoftWheels x = Due.withBook(FIVE);
    for (int wide = 1; wide <= 10; wide++) {
      for (int high = 1; high <= 10; high++) {
        Due.same("map(" + wide + ", " + high + ")", x.map(wide, high), wide * high);
        Due.same("count(8)", x.count(8), wide * high);
        Due.same("the last cell", x.of(wide * high - 1, 0), 0);
        Due.same("behind it", x.of(wide * high, 0), -1);
      }
    }
    Due.same("trouble()", x.trouble(), 0);
  }

  private static void newMap() {
    Due.edge("promise 10", "A MAP (no DOUBTS, no PLANS): how many CELLS");
    SoftWheels x = five(3, 3);
    for (int cell = 0; cell < 9; cell++) {
      x.height(cell, 900 + cell);
      x.ground(cell, 4);
    }
    for (int cell = 0; cell < 5; cell++) x.doubt(cell);
    x.told(0, 4);
    Due.plan(x, "right");
    x.dead(3);
    x.dig(3, 2);
    Due.same("map(3, 3) once more", x.map(3, 3), 9);
    Due.same("doubts", x.count(9), 0);
    Due.same("open ones", x.count(10), 0);
    Due.same("plans", x.count(11), 0);
    Due.same("truths()", x.truths(), 1);
    Due.refused(x, "forget(0)", x.forget(0), 1);
    Due.refused(x, "costs(0, 0, 1)", x.costs(0, 0, 1), 1);
    Due.same("five doubts once more", x.doubt(8), 0);
    Due.same("their cells are free", x.doubt(0), 1);
    Due.edge("terms III", "a height (0 .. 999; 0 at first) and a GROUND (0 at first)");
    for (int cell = 1; cell < 8; cell++) {
      Due.same("of(" + cell + ", 0)", x.of(cell, 0), 0);
      Due.same("of(" + cell + ", 1)", x.of(cell, 1), 0);
      Due.same("of(" + cell + ", 2)", x.of(cell, 2), -2);
    }
    Due.edge("promise 3, 10", "none DEAD, DUG 0: by a book, not by a map");
    Due.same("count(7)", x.count(7), 3);
    Due.same("count(12)", x.count(12), 2);
  }

  private static void mapRefused() {
    Due.edge("promise 10", "NONE: 1 (no GROUND)");
    SoftWheels none = new SoftWheels();
    Due.refused(none, "map(1, 1) without book", none.map(1, 1), 1);
    Due.refused(none, "map(0, 0) without book", none.map(0, 0), 1);
    Due.book(none, "try a each 0 one 0 cost 1");
    Due.refused(none, "map(1, 1) without ground", none.map(1, 1), 1);
    Due.refused(none, "map(11, 1) without ground", none.map(11, 1), 1);
    Due.same("count(8)", none.count(8), 0);
    Due.edge("promise 10", "2");
    SoftWheels x = five(3, 2);
    x.height(5, 7);
    x.doubt(5);
    Due.plan(x, "up");
    int[] bad = {0, 11, -1, LEAST, MOST};
    for (int b : bad) {
      Due.refused(x, "map(" + b + ", 1)", x.map(b, 1), 2);
      Due.refused(x, "map(10, " + b + ")", x.map(10, b), 2);
      for (int c : bad) Due.refused(x, "map(" + b + ", " + c + ")", x.map(b, c), 2);
    }
    // 65536 times 65536 is 0 in an int, -10 times -10 is 100.
    Due.refused(x, "map(65536, 65536)", x.map(65536, 65536), 2);
    Due.refused(x, "map(-10, -10)", x.map(-10, -10), 2);
    Due.same("the map stays", x.count(8), 6);
    Due.same("its heights stay", x.of(5, 0), 7);
    Due.same("its doubts stay", x.count(9), 1);
    Due.same("its plans stay", x.count(11), 1);
  }

  private static void heights() {
    SoftWheels x = five(3, 2);
    Due.edge("promise 11", "Height of a CELL: true");
    for (int cell = 0; cell < 6; cell++) {
      Due.same("height(" + cell + ", 999)", x.height(cell, 999), true);
      Due.same("of(" + cell + ", 0)", x.of(cell, 0), 999);
      Due.same("height(" + cell + ", 0)", x.height(cell, 0), true);
      Due.same("of(" + cell + ", 0)", x.of(cell, 0), 0);
    }
    Due.same("height(4, 5)", x.height(4, 5), true);
    for (int cell = 0; cell < 6; cell++) Due.same("of(" + cell + ", 0)", x.of(cell, 0), cell == 4 ? 5 : 0);
    x.doubt(4);
    Due.same("of a doubt's cell, too", x.height(4, 6), true);
    x.told(0, 0);
    Due.same("of a known one's, too", x.height(4, 7), true);
    Due.same("trouble()", x.trouble(), 0);
    Due.edge("promise 11", "false: 1");
    for (int cell : new int[] {-1, 6, 99, 100, LEAST, MOST}) {
      Due.refused(x, "height(" + cell + ", 0)", x.height(cell, 0), 1);
      Due.refused(x, "height(" + cell + ", 1000): 1 stands first", x.height(cell, 1000), 1);
    }
    SoftWheels none = new SoftWheels();
    Due.refused(none, "height(0, 0) without book", none.height(0, 0), 1);
    Due.book(none, FIVE);
    Due.refused(none, "height(0, 0) without map", none.height(0, 0), 1);
    Due.edge("promise 11", "2");
    for (int v : new int[] {-1, 1000, LEAST, MOST}) {
      Due.refused(x, "height(4, " + v + ")", x.height(4, v), 2);
      Due.same("of(4, 0) stays", x.of(4, 0), 7);
    }
  }

  private static void grounds() {
    SoftWheels x = five(3, 2);
    Due.edge("promise 12", "GROUND of a CELL: true");
    for (int cell = 0; cell < 6; cell++) {
      for (int g = 4; g >= 0; g--) {
        Due.same("ground(" + cell + ", " + g + ")", x.ground(cell, g), true);
        Due.same("of(" + cell + ", 1)", x.of(cell, 1), g);
      }
    }
    x.ground(2, 3);
    for (int cell = 0; cell < 6; cell++) Due.same("of(" + cell + ", 1)", x.of(cell, 1), cell == 2 ? 3 : 0);
    Due.edge("promise 12", "false: 1");
    for (int cell : new int[] {-1, 6, 100, LEAST, MOST}) Due.refused(x, "ground(" + cell + ", 0)", x.ground(cell, 0), 1);
    for (int g : new int[] {-1, 5, 8, LEAST, MOST}) {
      Due.refused(x, "ground(2, " + g + ")", x.ground(2, g), 1);
      Due.same("of(2, 1) stays", x.of(2, 1), 3);
    }
    SoftWheels none = new SoftWheels();
    Due.refused(none, "ground(0, 0) without book", none.ground(0, 0), 1);
    Due.book(none, FIVE);
    Due.refused(none, "ground(0, 0) without map", none.ground(0, 0), 1);
    Due.edge("promise 12", "5 (it has a DOUBT)");
    x.doubt(2);
    Due.refused(x, "ground(2, 1)", x.ground(2, 1), 5);
    Due.refused(x, "ground(2, 3): the one it had", x.ground(2, 3), 5);
    Due.refused(x, "ground(2, 5): 1 stands first", x.ground(2, 5), 1);
    Due.same("truth(0, 0) stays", x.truth(0, 0), 3);
    x.told(0, 3);
    Due.refused(x, "ground(2, 1) of a known one", x.ground(2, 1), 5);
    Due.same("ground(1, 1) beside it", x.ground(1, 1), true);
  }

  private static void doubts() {
    SoftWheels x = five(3, 3);
    Due.edge("terms III", "up to 5, each of a CELL of its own");
    int[] cells = {8, 0, 4, 2, 6};
    for (int d = 0; d < 5; d++) {
      x.ground(cells[d], d);
      Due.same("doubt(" + cells[d] + ")", x.doubt(cells[d]), d);
      Due.same("trouble()", x.trouble(), 0);
      Due.same("count(9)", x.count(9), d + 1);
      Due.same("count(10)", x.count(10), d + 1);
      Due.same("of(" + cells[d] + ", 2)", x.of(cells[d], 2), d);
    }
    Due.edge("terms III", "(at first 1 for the CELL's GROUND alone)");
    Due.same("truths()", x.truths(), 1);
    for (int d = 0; d < 5; d++) {
      Due.same("truth(0, " + d + ")", x.truth(0, d), d);
      for (int g = 0; g < 5; g++) {
        if (g != d) Due.refused(x, "told(" + d + ", " + g + ") of weight 0", x.told(d, g), 5);
      }
      Due.refused(x, "the one that is above 0", x.weigh(d, d, 0), 5);
    }
    Due.edge("terms III", "(at first 1 ...): a weight of 1, not another");
    SoftWheels y = Due.withBook("ground a sinks 0 0 grips 0 80;ground b sinks 0 10 grips 0 80");
    y.map(2, 1);
    y.doubt(1);
    y.weigh(0, 1, 3);
    // 11 and 12 by 1 to 3.
    Due.same("mean's numerator", y.mean(0, 1, false), 47);
    Due.same("mean's denominator", y.mean(0, 1, true), 4);
  }

  private static void doubtRefused() {
    Due.edge("promise 13", "NONE: 1");
    SoftWheels none = new SoftWheels();
    Due.refused(none, "doubt(0) without book", none.doubt(0), 1);
    Due.book(none, FIVE);
    Due.refused(none, "doubt(0) without map", none.doubt(0), 1);
    SoftWheels x = five(3, 3);
    for (int cell : new int[] {-1, 9, 100, LEAST, MOST}) Due.refused(x, "doubt(" + cell + ")", x.doubt(cell), 1);
    Due.same("count(9)", x.count(9), 0);
    Due.edge("promise 13", "5 (it has one)");
    x.doubt(3);
    Due.refused(x, "doubt(3)", x.doubt(3), 5);
    x.told(0, 0);
    Due.refused(x, "doubt(3) when it is known", x.doubt(3), 5);
    Due.same("count(9)", x.count(9), 1);
    Due.edge("promise 13", "3");
    for (int cell = 4; cell < 8; cell++) x.doubt(cell);
    Due.refused(x, "a sixth", x.doubt(8), 3);
    Due.refused(x, "a sixth of a cell that has one: 5 stands first", x.doubt(3), 5);
    Due.refused(x, "a sixth of no cell: 1 stands first", x.doubt(9), 1);
    Due.same("count(9)", x.count(9), 5);
    Due.same("of(8, 2)", x.of(8, 2), -2);
  }

  private static void weights() {
    SoftWheels x = five(3, 1);
    x.doubt(1);
    Due.edge("promise 14", "WEIGHT of a GROUND in a DOUBT: true");
    Due.same("weigh(0, 0, 9)", x.weigh(0, 0, 9), true);
    Due.same("trouble()", x.trouble(), 0);
    Due.same("weigh(0, 4, 1)", x.weigh(0, 4, 1), true);
    Due.same("weigh(0, 4, 0)", x.weigh(0, 4, 0), true);
    Due.same("truths()", x.truths(), 1);
    Due.same("weigh(0, 4, 0) again", x.weigh(0, 4, 0), true);
    Due.edge("terms III", "above 0 for 1 to 3 of them");
    Due.same("a second", x.weigh(0, 3, 1), true);
    Due.same("a third", x.weigh(0, 1, 9), true);
    Due.same("truths()", x.truths(), 3);
    Due.same("one of three anew", x.weigh(0, 3, 9), true);
    Due.same("truths()", x.truths(), 3);
    Due.same("down to two", x.weigh(0, 0, 0), true);
    Due.same("down to one", x.weigh(0, 3, 0), true);
    Due.same("truths()", x.truths(), 1);
    Due.same("truth(0, 0)", x.truth(0, 0), 1);
    Due.same("of another doubt's own", x.doubt(2), 1);
    Due.same("weigh(1, 4, 2)", x.weigh(1, 4, 2), true);
    Due.same("truths()", x.truths(), 2);
    Due.same("truth(1, 0)", x.truth(1, 0), 1);
    Due.same("truth(1, 1)", x.truth(1, 1), 4);
  }

  private static void weighRefused() {
    SoftWheels x = five(3, 1);
    x.doubt(1);
    Due.edge("promise 14", "false: 1");
    for (int d : new int[] {-1, 1, 5, LEAST, MOST}) Due.refused(x, "weigh(" + d + ", 0, 1)", x.weigh(d, 0, 1), 1);
    for (int g : new int[] {-1, 5, 8, LEAST, MOST}) {
      Due.refused(x, "weigh(0, " + g + ", 1)", x.weigh(0, g, 1), 1);
      Due.refused(x, "weigh(0, " + g + ", 10): 1 stands first", x.weigh(0, g, 10), 1);
    }
    SoftWheels none = new SoftWheels();
    Due.refused(none, "weigh(0, 0, 1) without book", none.weigh(0, 0, 1), 1);
    Due.book(none, FIVE);
    none.map(1, 1);
    Due.refused(none, "weigh(0, 0, 1) without doubt", none.weigh(0, 0, 1), 1);
    Due.edge("promise 14", "2");
    for (int w : new int[] {-1, 10, LEAST, MOST}) Due.refused(x, "weigh(0, 1, " + w + ")", x.weigh(0, 1, w), 2);
    Due.same("truths()", x.truths(), 1);
    Due.edge("promise 14", "5 (none would be above 0");
    Due.refused(x, "weigh(0, 0, 0)", x.weigh(0, 0, 0), 5);
    Due.same("truth(0, 0)", x.truth(0, 0), 0);
    Due.edge("promise 14", "or four");
    x.weigh(0, 2, 1);
    x.weigh(0, 4, 1);
    for (int w = 1; w <= 9; w++) Due.refused(x, "weigh(0, 1, " + w + ")", x.weigh(0, 1, w), 5);
    Due.refused(x, "weigh(0, 1, 10): 2 stands first", x.weigh(0, 1, 10), 2);
    Due.same("truths()", x.truths(), 3);
    Due.same("0 makes no fourth", x.weigh(0, 1, 0), true);
    Due.edge("promise 14", "it is KNOWN to be of that one, and 0 is told)");
    x.told(0, 2);
    Due.refused(x, "weigh(0, 2, 0)", x.weigh(0, 2, 0), 5);
    Due.same("of(1, 1) stays", x.of(1, 1), 2);
    Due.same("another weight", x.weigh(0, 2, 5), true);
    Due.same("0 of another one", x.weigh(0, 4, 0), true);
    Due.same("another one anew", x.weigh(0, 1, 1), true);
    x.told(0, 1);
    Due.same("0 when it is known to be of another", x.weigh(0, 2, 0), true);
    x.forget(0);
    Due.same("0 when it is forgotten", x.weigh(0, 1, 0), true);
    Due.same("truths()", x.truths(), 1);
    Due.refused(x, "the last one", x.weigh(0, 0, 0), 5);
  }

  private static void telling() {
    SoftWheels x = five(3, 1);
    x.doubt(1);
    x.weigh(0, 3, 9);
    Due.edge("promise 15", "A DOUBT is KNOWN to be of a GROUND: true");
    Due.same("told(0, 3)", x.told(0, 3), true);
    Due.same("trouble()", x.trouble(), 0);
    Due.same("of(1, 1)", x.of(1, 1), 3);
    Due.same("count(10)", x.count(10), 0);
    Due.same("told(0, 3) again", x.told(0, 3), true);
    Due.same("told(0, 0) instead", x.told(0, 0), true);
    Due.same("of(1, 1)", x.of(1, 1), 0);
    Due.same("truths()", x.truths(), 1);
    Due.edge("promise 15", "false: 1");
    for (int d : new int[] {-1, 1, 5, LEAST, MOST}) Due.refused(x, "told(" + d + ", 0)", x.told(d, 0), 1);
    for (int g : new int[] {-1, 5, 8, LEAST, MOST}) Due.refused(x, "told(0, " + g + ")", x.told(0, g), 1);
    SoftWheels none = new SoftWheels();
    Due.refused(none, "told(0, 0) without book", none.told(0, 0), 1);
    Due.book(none, FIVE);
    Due.refused(none, "told(0, 0) without map", none.told(0, 0), 1);
    Due.edge("promise 15", "5 (of WEIGHT 0)");
    Due.refused(x, "told(0, 1)", x.told(0, 1), 5);
    Due.same("of(1, 1) stays", x.of(1, 1), 0);
    x.forget(0);
    Due.refused(x, "told(0, 4)", x.told(0, 4), 5);
    Due.same("of(1, 1) stays", x.of(1, 1), -2);
    x.weigh(0, 3, 0);
    Due.refused(x, "told(0, 3), weighed down", x.told(0, 3), 5);
  }

  private static void forgetting() {
    SoftWheels x = five(3, 1);
    x.doubt(1);
    x.doubt(2);
    x.weigh(0, 3, 9);
    Due.edge("promise 16", "A DOUBT is OPEN again: true");
    x.told(0, 3);
    Due.same("forget(0)", x.forget(0), true);
    Due.same("trouble()", x.trouble(), 0);
    Due.same("of(1, 1)", x.of(1, 1), -2);
    Due.same("of(1, 2)", x.of(1, 2), 0);
    Due.same("count(10)", x.count(10), 2);
    Due.same("truths()", x.truths(), 2);
    Due.edge("promise 16", "false: 1");
    for (int d : new int[] {-1, 2, 5, LEAST, MOST}) Due.refused(x, "forget(" + d + ")", x.forget(d), 1);
    SoftWheels none = new SoftWheels();
    Due.refused(none, "forget(0) without book", none.forget(0), 1);
    Due.book(none, FIVE);
    Due.refused(none, "forget(0) without map", none.forget(0), 1);
    Due.edge("promise 16", "5 (it is OPEN)");
    Due.refused(x, "forget(0)", x.forget(0), 5);
    Due.refused(x, "forget(1)", x.forget(1), 5);
    x.told(1, 0);
    Due.refused(x, "forget(0): another one is known", x.forget(0), 5);
    Due.same("forget(1)", x.forget(1), true);
    Due.refused(x, "forget(1) again", x.forget(1), 5);
  }

  private static void ofCells() {
    SoftWheels x = five(3, 1);
    x.height(1, 999);
    x.ground(1, 4);
    Due.edge("promise 17", "Of a CELL 0 height, 1 its GROUND (of a DOUBT what is KNOWN; -2), 2 its DOUBT (-2)");
    Due.same("of(1, 0)", x.of(1, 0), 999);
    Due.same("of(1, 1)", x.of(1, 1), 4);
    Due.same("of(1, 2)", x.of(1, 2), -2);
    x.doubt(1);
    x.weigh(0, 2, 1);
    Due.same("of(1, 0) of a doubt", x.of(1, 0), 999);
    Due.same("of(1, 1) of an open one", x.of(1, 1), -2);
    Due.same("of(1, 2)", x.of(1, 2), 0);
    x.told(0, 2);
    Due.same("of(1, 1) of a known one", x.of(1, 1), 2);
    Due.same("of(1, 2) of a known one", x.of(1, 2), 0);
    Due.edge("promise 17", "NONE for none such");
    for (int cell : new int[] {-1, 3, 100, LEAST, MOST}) {
      for (int what = 0; what < 3; what++) Due.same("of(" + cell + ", " + what + ")", x.of(cell, what), -1);
    }
    for (int what : new int[] {-1, 3, LEAST, MOST}) Due.same("of(1, " + what + ")", x.of(1, what), -1);
    SoftWheels none = new SoftWheels();
    Due.same("of(0, 0) without book", none.of(0, 0), -1);
    Due.book(none, FIVE);
    Due.same("of(0, 0) without map", none.of(0, 0), -1);
    Due.same("trouble() is not touched", none.trouble(), 0);
  }

  private static void howManyTruths() {
    Due.edge("promise 22", "How many TRUTHS");
    SoftWheels x = five(5, 1);
    Due.same("without doubts", x.truths(), 1);
    int due = 1;
    for (int d = 0; d < 5; d++) {
      x.doubt(d);
      Due.same("one more of one ground", x.truths(), due);
      x.weigh(d, 1, 9);
      Due.same("of two", x.truths(), due * 2);
      x.weigh(d, 2, 9);
      due *= 3;
      Due.same("of three", x.truths(), due);
    }
    Due.same("at most", x.truths(), 243);
    for (int d = 0; d < 5; d++) {
      x.told(d, 2);
      due /= 3;
      Due.same("one less is open", x.truths(), due);
    }
    Due.edge("promise 22", "0 without a MAP");
    SoftWheels none = new SoftWheels();
    Due.same("without book", none.truths(), 0);
    Due.book(none, FIVE);
    Due.same("without map", none.truths(), 0);
    Due.book(x, FIVE);
    Due.same("behind a new book", x.truths(), 0);
  }

  private static void truthNumbers() {
    SoftWheels x = five(5, 1);
    int[][] of = {{1, 2, 4}, {0, 3}, {2}, {0, 1, 2}, {3, 4}};
    for (int d = 0; d < 5; d++) {
      x.ground(d, of[d][0]);
      x.doubt(d);
      // From behind, so that it is not the order in which they were told.
      for (int i = of[d].length - 1; i >= 0; i--) x.weigh(d, of[d][i], 9 - i);
    }
    Due.edge("terms III", "numbered: the first OPEN DOUBT counts most, GROUNDS upwards");
    int number = 0;
    for (int a : of[0]) for (int b : of[1]) for (int c : of[2]) for (int d : of[3]) for (int e : of[4]) {
      int[] due = {a, b, c, d, e};
      for (int i = 0; i < 5; i++) Due.same("truth(" + number + ", " + i + ")", x.truth(number, i), due[i]);
      number++;
    }
    Due.same("truths()", x.truths(), number);
    Due.edge("promise 23", "(of a KNOWN one what is KNOWN)");
    x.told(0, 4);
    x.told(3, 1);
    number = 0;
    for (int b : of[1]) for (int c : of[2]) for (int e : of[4]) {
      int[] due = {4, b, c, 1, e};
      for (int i = 0; i < 5; i++) Due.same("truth(" + number + ", " + i + ")", x.truth(number, i), due[i]);
      number++;
    }
    Due.same("truths()", x.truths(), number);
    Due.edge("promise 23", "NONE");
    for (int n : new int[] {-1, number, 243, LEAST, MOST}) Due.same("truth(" + n + ", 0)", x.truth(n, 0), -1);
    for (int d : new int[] {-1, 5, LEAST, MOST}) Due.same("truth(0, " + d + ")", x.truth(0, d), -1);
    Due.same("truth(0, 0) of a new one", new SoftWheels().truth(0, 0), -1);
    SoftWheels y = five(1, 1);
    Due.same("truth(0, 0) without doubt", y.truth(0, 0), -1);
  }
}
