import java.math.BigInteger;
import java.util.Arrays;
import java.util.NoSuchElementException;

/** The edges of promises 19 to 21 and 24 to 28: a test for each sentence that names one. */
public final class EdgesWaysTest {
  private static final int LEAST = Integer.MIN_VALUE;
  private static final int MOST = Integer.MAX_VALUE;
  /** On the level a step costs 11 onto rock, 191 onto mud, and can't be onto bog. */
  private static final String ROCK = "ground rock sinks 0 0 grips 0 80;ground mud sinks 0 90 grips 0 0, 90 9;"
      + "ground bog sinks 0 101 grips 0 0";

  public static void main(String[] args) {
    atTheGoal();
    noSuchCells();
    noWay();
    noWayInOneTruth();
    whatIsSeen();
    severalSeen();
    seenFromThenOn();
    leastNumber();
    stepsCount();
    lowestTerms();
    wayRefused();
    runRefused();
    led();
    longRun();
    regret();
    worth();
    spared();
    knownFirst();
    weightsOfTruths();
    leftTruths();
    asItIsNow();
    Due.end("EdgesWaysTest");
  }

  private static SoftWheels rock(int wide, int high) {
    SoftWheels x = Due.withBook(ROCK);
    x.map(wide, high);
    return x;
  }

  /** Two lanes from 5 to 9: above with a doubt at 2, rock by 9 and bog by 1; below with mud at 12. */
  private static SoftWheels ring() {
    SoftWheels x = rock(5, 3);
    for (int c = 6; c <= 8; c++) x.height(c, 999);
    x.ground(12, 1);
    x.doubt(2);
    x.weigh(0, 0, 9);
    x.weigh(0, 2, 1);
    return x;
  }

  private static void mean(SoftWheels x, int from, int to, long over, long under) {
    Due.same("mean(" + from + ", " + to + ", false)", x.mean(from, to, false), over);
    Due.same("trouble()", x.trouble(), 0);
    Due.same("mean(" + from + ", " + to + ", true)", x.mean(from, to, true), under);
    Due.same("trouble()", x.trouble(), 0);
  }

  private static void worth(SoftWheels x, int doubt, int from, int to, long over, long under) {
    Due.same("worth(" + doubt + ", " + from + ", " + to + ", false)", x.worth(doubt, from, to, false), over);
    Due.same("trouble()", x.trouble(), 0);
    Due.same("worth(" + doubt + ", " + from + ", " + to + ", true)", x.worth(doubt, from, to, true), under);
    Due.same("trouble()", x.trouble(), 0);
  }

  private static boolean throwsAt(SoftWheels x, int i) {
    try {
      x.led(i);
      return false;
    } catch (NoSuchElementException e) {
      return true;
    }
  }

  private static void led(SoftWheels x, int... cells) {
    for (int i = 0; i < cells.length; i++) {
      boolean none = throwsAt(x, i);
      Due.that("led(" + i + ") is there", !none);
      if (!none) Due.same("led(" + i + ")", x.led(i), cells[i]);
    }
    for (int i : new int[] {cells.length, cells.length + 1, 600, 601, 1000, MOST, -1, -2, LEAST}) Due.that("led(" + i + ") throws", throwsAt(x, i));
  }

  private static void atTheGoal() {
    SoftWheels x = ring();
    for (int c = 0; c < 15; c++) {
      if (c != 2 && c % 2 == 0) x.ground(c, 2);
    }
    for (int c = 0; c < 15; c++) {
      Due.edge("promise 19", "WORST from a CELL to a goal: from the goal itself 0");
      Due.same("worst(" + c + ", " + c + ")", x.worst(c, c), 0);
      Due.same("trouble()", x.trouble(), 0);
      Due.edge("promise 20", "MEAN from the goal itself: 0 by 1");
      mean(x, c, c, 0, 1);
      Due.edge("promise 24, 25", "COST from the goal itself 0, and it is the one CELL");
      for (int t = 0; t < 2; t++) {
        Due.same("run(" + c + ", " + c + ", true, " + t + ")", x.run(c, c, t == 0, t), 0);
        led(x, c);
      }
      Due.edge("promise 26", "REGRET from the goal itself 0");
      Due.same("regret(" + c + ", " + c + ")", x.regret(c, c), 0);
      Due.edge("promise 27, 28", "WORTH and SPARED from the goal itself 0");
      worth(x, 0, c, c, 0, 1);
      Due.same("spared(0, " + c + ", " + c + ")", x.spared(0, c, c), 0);
    }
    Due.edge("promise 21", "4 at the goal");
    for (int c : new int[] {0, 4, 5, 6, 8, 9, 14}) {
      Due.same("way(" + c + ", " + c + ", true)", x.way(c, c, true), 4);
      Due.same("way(" + c + ", " + c + ", false)", x.way(c, c, false), 4);
      Due.same("trouble()", x.trouble(), 0);
    }
    SoftWheels y = rock(1, 1);
    Due.same("on the least map", y.way(0, 0, true), 4);
    Due.same("worst(0, 0)", y.worst(0, 0), 0);
  }

  private static void noSuchCells() {
    SoftWheels none = new SoftWheels();
    SoftWheels book = Due.withBook(ROCK);
    SoftWheels x = ring();
    int[][] bad = {{-1, 0}, {0, -1}, {15, 0}, {0, 15}, {15, 15}, {-1, -1}, {100, 0}, {0, 100}, {LEAST, 0}, {0, LEAST}, {MOST, 0}, {0, MOST}};
    Due.edge("promise 19", "NONE: 1");
    Due.refused(none, "worst(0, 0) without book", none.worst(0, 0), 1);
    Due.refused(book, "worst(0, 0) without map", book.worst(0, 0), 1);
    for (int[] b : bad) Due.refused(x, "worst(" + b[0] + ", " + b[1] + ")", x.worst(b[0], b[1]), 1);
    Due.edge("promise 20", "-2^63: 1");
    for (boolean under : new boolean[] {false, true}) {
      Due.refused(none, "mean(0, 0) without book", none.mean(0, 0, under), 1);
      Due.refused(book, "mean(0, 0) without map", book.mean(0, 0, under), 1);
      for (int[] b : bad) Due.refused(x, "mean(" + b[0] + ", " + b[1] + ")", x.mean(b[0], b[1], under), 1);
    }
    Due.edge("promise 21", "NONE: 1");
    for (boolean byMean : new boolean[] {false, true}) {
      Due.refused(none, "way(0, 0) without book", none.way(0, 0, byMean), 1);
      Due.refused(book, "way(0, 0) without map", book.way(0, 0, byMean), 1);
      for (int[] b : bad) Due.refused(x, "way(" + b[0] + ", " + b[1] + ")", x.way(b[0], b[1], byMean), 1);
      Due.refused(x, "way(1, 15): 1 stands ahead of 5", x.way(1, 15, byMean), 1);
    }
    Due.edge("promise 26", "NONE: 1");
    Due.refused(none, "regret(0, 0) without book", none.regret(0, 0), 1);
    Due.refused(book, "regret(0, 0) without map", book.regret(0, 0), 1);
    for (int[] b : bad) Due.refused(x, "regret(" + b[0] + ", " + b[1] + ")", x.regret(b[0], b[1]), 1);
    Due.edge("promise 27", "-2^63: 1");
    for (boolean under : new boolean[] {false, true}) {
      Due.refused(none, "worth(0, 0, 0) without book", none.worth(0, 0, 0, under), 1);
      Due.refused(book, "worth(0, 0, 0) without map", book.worth(0, 0, 0, under), 1);
      for (int[] b : bad) Due.refused(x, "worth(0, " + b[0] + ", " + b[1] + ")", x.worth(0, b[0], b[1], under), 1);
      for (int d : new int[] {-1, 1, 5, LEAST, MOST}) Due.refused(x, "worth(" + d + ", 5, 9)", x.worth(d, 5, 9, under), 1);
    }
    Due.edge("promise 28", "NONE: 1");
    Due.refused(none, "spared(0, 0, 0) without book", none.spared(0, 0, 0), 1);
    Due.refused(book, "spared(0, 0, 0) without map", book.spared(0, 0, 0), 1);
    for (int[] b : bad) Due.refused(x, "spared(0, " + b[0] + ", " + b[1] + ")", x.spared(0, b[0], b[1]), 1);
    for (int d : new int[] {-1, 1, 5, LEAST, MOST}) Due.refused(x, "spared(" + d + ", 5, 9)", x.spared(d, 5, 9), 1);
  }

  private static void refusedBySix(SoftWheels x, int from, int to, int doubt, boolean seen) {
    Due.edge("promise 19", "NONE: 6");
    Due.refused(x, "worst", x.worst(from, to), 6);
    Due.edge("promise 20", "-2^63: 6");
    Due.refused(x, "mean's numerator", x.mean(from, to, false), 6);
    Due.refused(x, "mean's denominator", x.mean(from, to, true), 6);
    Due.edge("promise 21", seen ? "NONE: 5 ahead of 6" : "NONE: 6");
    Due.refused(x, "way by worst", x.way(from, to, false), seen ? 5 : 6);
    Due.refused(x, "way by mean", x.way(from, to, true), seen ? 5 : 6);
    Due.edge("promise 24", "NONE: 6");
    for (int t = 0; t < x.truths(); t++) {
      Due.refused(x, "run by worst in " + t, x.run(from, to, false, t), 6);
      Due.refused(x, "run by mean in " + t, x.run(from, to, true, t), 6);
    }
    Due.edge("promise 24", "1 (TRUTH, too) ahead of 6");
    Due.refused(x, "run in no truth", x.run(from, to, false, x.truths()), 1);
    Due.edge("promise 26", "NONE: 6");
    Due.refused(x, "regret", x.regret(from, to), 6);
    if (doubt >= 0) {
      Due.edge("promise 27", "-2^63: 6");
      Due.refused(x, "worth's numerator", x.worth(doubt, from, to, false), 6);
      Due.refused(x, "worth's denominator", x.worth(doubt, from, to, true), 6);
      Due.edge("promise 28", "NONE: 6");
      Due.refused(x, "spared", x.spared(doubt, from, to), 6);
    }
  }

  private static void noWay() {
    SoftWheels x = rock(4, 1);
    x.ground(1, 2);
    refusedBySix(x, 0, 3, -1, false);
    Due.edge("terms III", "the GROUND of the CELL it comes to, not of the one it leaves");
    Due.same("out of the bog", x.worst(1, 3), 22);
    Due.same("beside it", x.worst(2, 3), 11);
    x.doubt(3);
    refusedBySix(x, 0, 3, 0, false);
    refusedBySix(x, 0, 2, 0, false);
    // Down, and never up again: 1000 are held, 10 needed for each that it rises.
    SoftWheels y = Due.withBook("ground rock sinks 0 0 grips 0 10;rover wheels 4 weight 100 clear 100 tip 300 drag 0");
    y.map(1, 2);
    y.height(0, 101);
    Due.same("worst(0, 1)", y.worst(0, 1), 11);
    refusedBySix(y, 1, 0, -1, false);
  }

  private static void noWayInOneTruth() {
    // The last of three truths has no way.
    SoftWheels x = rock(4, 1);
    x.doubt(2);
    x.weigh(0, 1, 9);
    x.weigh(0, 2, 1);
    refusedBySix(x, 0, 3, 0, false);
    refusedBySix(x, 1, 3, 0, true);
    refusedBySix(x, 0, 2, 0, false);
    Due.edge("terms III", "comes to the goal in each TRUTH");
    Due.same("worst(0, 1): short of it", x.worst(0, 1), 11);
    Due.same("worst(2, 0): from it", x.worst(2, 0), 22);
    x.told(0, 1);
    Due.same("worst(0, 3) when it is mud", x.worst(0, 3), 11 + 191 + 11);
    x.told(0, 2);
    refusedBySix(x, 0, 3, -1, false);
    // However little or much it weighs.
    x.forget(0);
    for (int much = 1; much <= 9; much++) {
      x.weigh(0, 2, much);
      refusedBySix(x, 0, 3, 0, false);
      x.weigh(0, 0, much);
      x.weigh(0, 1, 10 - much);
      refusedBySix(x, 1, 3, 0, true);
    }
    // The first of two truths has none.
    SoftWheels y = rock(3, 1);
    y.ground(1, 2);
    y.doubt(1);
    y.weigh(0, 0, 1);
    y.weigh(0, 2, 0);
    y.weigh(0, 1, 1);
    Due.same("worst(0, 2)", y.worst(0, 2), 202);
    y.weigh(0, 2, 1);
    refusedBySix(y, 0, 2, 0, true);
  }

  private static void whatIsSeen() {
    Due.edge("terms III", "SEES, where it stands (at the beginning, too), the DOUBTS of its own CELL and of those beside it");
    int wide = 4;
    for (int doubt = 0; doubt < 12; doubt++) {
      SoftWheels x = rock(wide, 3);
      x.doubt(doubt);
      for (int from = 0; from < 12; from++) {
        int far = Math.abs(from % wide - doubt % wide) + Math.abs(from / wide - doubt / wide);
        int to = from == 0 ? 1 : 0;
        int got = x.way(from, to, from % 2 == 0);
        String call = "way(" + from + ", " + to + ") with a doubt at " + doubt;
        // Neither across a corner nor round the end of a row.
        if (far <= 1) Due.refused(x, call, got, 5);
        else Due.that(call + " answered " + got, got >= 0 && got < 4 && x.trouble() == 0);
      }
    }
    Due.edge("terms III", "what it SEES at the beginning is KNOWN to it at once");
    SoftWheels x = ring();
    int[][] from = {{1, 0}, {2, 0}, {3, 0}, {0, 1}, {5, 1}};
    for (int[] f : from) Due.that("worth from " + f[0], x.worth(0, f[0], 9, false) > 0 == (f[1] > 0));
  }

  private static void severalSeen() {
    Due.edge("terms III", "the DOUBTS of its own CELL and of those beside it: all of them");
    // In the midst of a cross all five are seen, at its ends two.
    int[] cells = {4, 1, 3, 5, 7};
    int[][] seen = {{0, 1, 2, 3, 4}, {0, 1}, {0, 2}, {0, 3}, {0, 4}};
    for (int turn = 0; turn < 5; turn++) {
      SoftWheels x = rock(3, 3);
      int[] number = new int[5];
      for (int i = 0; i < 5; i++) number[(i + turn) % 5] = x.doubt(cells[(i + turn) % 5]);
      for (int open = 0; open < 5; open++) {
        for (int d = 0; d < 5; d++) {
          if (d != open) x.told(number[d], 0);
        }
        for (int at = 0; at < 5; at++) {
          boolean sees = false;
          for (int d : seen[at]) sees |= d == open;
          int got = x.way(cells[at], 8, true);
          Due.same("way(" + cells[at] + ", 8) when that of " + cells[open] + " is open", got == -1 ? x.trouble() : 0, sees ? 5 : 0);
        }
        x.told(number[open], 0);
        x.forget(number[(open + 1) % 5]);
      }
    }
    SoftWheels x = rock(3, 3);
    for (int c : cells) {
      int d = x.doubt(c);
      x.weigh(d, 1, d + 1);
    }
    // By 1 or by 3, mud 2 of 3 times and 3 of 4 times: both of them 1 of 2 times.
    Due.same("worst(4, 0)", x.worst(4, 0), 202);
    mean(x, 4, 0, 112, 1);
  }

  private static void seenFromThenOn() {
    Due.edge("terms III", "they are KNOWN to it from then on");
    SoftWheels x = ring();
    Due.same("run by mean in truth 1", x.run(5, 9, true, 1), 290);
    led(x, 5, 0, 1, 0, 5, 10, 11, 12, 13, 14, 9);
    Due.same("it is open for others still", x.count(10), 1);
    Due.same("truths()", x.truths(), 2);
    mean(x, 5, 9, 442, 5);
  }

  private static void leastNumber() {
    Due.edge("terms III", "the one of the least number");
    SoftWheels x = rock(3, 3);
    int[][] corners = {{0, 1}, {2, 0}, {6, 1}, {8, 0}, {1, 2}, {7, 3}, {3, 1}, {5, 0}};
    for (int[] c : corners) {
      Due.same("way(4, " + c[0] + ") by worst", x.way(4, c[0], false), c[1]);
      Due.same("way(4, " + c[0] + ") by mean", x.way(4, c[0], true), c[1]);
    }
    x.ground(4, 2);
    Due.same("up and down are as dear", x.way(3, 5, false), 2);
    Due.same("right and left are as dear", x.way(1, 7, true), 0);
    Due.same("left ahead of up", x.way(8, 0, true), 1);
    Due.same("right ahead of down", x.way(0, 8, false), 0);
    x.ground(2, 1);
    Due.same("down is cheaper", x.way(3, 5, false), 3);
    Due.same("left is cheaper", x.way(1, 7, true), 1);
    Due.same("right: it can't be by left", x.way(6, 8, true), 0);
  }

  private static void stepsCount() {
    Due.edge("terms III", "of STEPS by which, from there on, the greatest COST ... (the mean) is the least: the STEP's own, too");
    SoftWheels x = rock(2, 2);
    x.ground(1, 1);
    // From 1 and from 2 it is one step to 3.
    Due.same("way(0, 3, false)", x.way(0, 3, false), 3);
    Due.same("way(0, 3, true)", x.way(0, 3, true), 3);
    x.ground(1, 0);
    x.ground(2, 1);
    Due.same("way(0, 3, false)", x.way(0, 3, false), 0);
    Due.same("way(0, 3, true)", x.way(0, 3, true), 0);
    // By mean in the sight of none of three doubts that weigh much: the step's cost weighs as much as what is behind it.
    SoftWheels y = rock(10, 4);
    int[] far = {37, 38, 39};
    for (int d = 0; d < 3; d++) {
      y.doubt(far[d]);
      for (int g = 0; g < 3; g++) y.weigh(d, g, 9);
    }
    y.ground(1, 1);
    for (int c = 11; c < 20; c++) y.height(c, c == 12 ? 0 : 999);
    // From 0 to 2 by mud 202, round it by 10, 20, 21, 22, 12: 66.
    Due.same("way(0, 2, true)", y.way(0, 2, true), 3);
    mean(y, 0, 2, 66, 1);
    Due.same("run(0, 2, true, 0)", y.run(0, 2, true, 0), 66);
    led(y, 0, 10, 20, 21, 22, 12, 2);
  }

  private static BigInteger big(long v) { return BigInteger.valueOf(v); }

  private static void lowestTerms() {
    Due.edge("promise 20", "its numerator (or denominator), in lowest terms");
    SoftWheels x = Due.withBook("ground rock sinks 0 0 grips 0 80;ground mud sinks 0 90 grips 0 0, 90 9;ground wet sinks 0 30 grips 0 80");
    x.map(10, 1);
    int[] cost = {11, 191, 14};
    // Together by 23, 25, 19, 17 and 26, so that not much can be left out.
    int[][] weights = {{9, 8, 6}, {9, 9, 7}, {9, 8, 2}, {9, 7, 1}, {9, 9, 8}};
    BigInteger over = big(4 * 191);
    BigInteger under = big(1);
    for (int d = 0; d < 5; d++) {
      x.ground(2 * d, 1);
      x.doubt(2 * d + 1);
      long sum = 0;
      long all = 0;
      for (int g = 0; g < 3; g++) {
        x.weigh(d, g, weights[d][g]);
        sum += weights[d][g] * cost[g];
        all += weights[d][g];
      }
      over = over.multiply(big(all)).add(under.multiply(big(sum)));
      under = under.multiply(big(all));
    }
    Due.same("truths()", x.truths(), 243);
    BigInteger both = over.gcd(under);
    Due.that("more than an int holds", over.divide(both).bitLength() > 31);
    mean(x, 0, 9, over.divide(both).longValueExact(), under.divide(both).longValueExact());
    for (int d = 0; d < 5; d++) x.told(d, 1);
    mean(x, 0, 9, 9 * 191, 1);
    // 11 and 191 by halves: 101, a whole.
    SoftWheels y = rock(2, 1);
    y.doubt(1);
    y.weigh(0, 1, 1);
    mean(y, 0, 1, 101, 1);
    y.weigh(0, 0, 9);
    y.weigh(0, 1, 9);
    mean(y, 0, 1, 101, 1);
    y.weigh(0, 1, 3);
    mean(y, 0, 1, 56, 1);
    y.weigh(0, 1, 6);
    mean(y, 0, 1, 83, 1);
    y.weigh(0, 1, 2);
    mean(y, 0, 1, 481, 11);
  }

  private static void wayRefused() {
    SoftWheels x = ring();
    Due.edge("promise 21", "5 (a DOUBT that it SEES there is OPEN)");
    for (int from : new int[] {1, 2, 3, 7}) {
      Due.refused(x, "way(" + from + ", 9, false)", x.way(from, 9, false), 5);
      Due.refused(x, "way(" + from + ", 9, true)", x.way(from, 9, true), 5);
    }
    x.weigh(0, 2, 0);
    Due.refused(x, "of one ground alone it is open, too", x.way(1, 9, true), 5);
    x.told(0, 0);
    Due.same("way(1, 9) when it is known", x.way(1, 9, true), 0);
    Due.same("trouble()", x.trouble(), 0);
    x.doubt(1);
    Due.refused(x, "one known, one open", x.way(1, 9, true), 5);
    Due.refused(x, "one known, one open", x.way(2, 9, true), 5);
    Due.same("the open one is two away", x.way(3, 9, true), 0);
    x.forget(0);
    x.told(1, 0);
    Due.refused(x, "the other way round", x.way(1, 9, true), 5);
    Due.same("the open one is two away", x.way(0, 9, true), 0);
    Due.edge("promise 21", "The first STEP of THE WAY by WORST (or by MEAN)");
    SoftWheels y = ring();
    Due.same("by worst", y.way(5, 9, false), 3);
    Due.same("by mean", y.way(5, 9, true), 2);
  }

  private static void runRefused() {
    Due.edge("promise 24", "NONE: 1 (TRUTH, too)");
    SoftWheels none = new SoftWheels();
    Due.refused(none, "run without book", none.run(0, 0, true, 0), 1);
    SoftWheels book = Due.withBook(ROCK);
    Due.refused(book, "run without map", book.run(0, 0, true, 0), 1);
    SoftWheels x = ring();
    x.run(0, 5, false, 0);
    int[][] bad = {{-1, 9, 0}, {5, -1, 0}, {15, 9, 0}, {5, 15, 0}, {LEAST, 9, 0}, {5, MOST, 0}, {5, 9, -1}, {5, 9, 2}, {5, 9, 243}, {5, 9, LEAST},
        {5, 9, MOST}, {5, 5, 2}, {15, 15, 2}};
    for (int[] b : bad) {
      Due.refused(x, "run(" + b[0] + ", " + b[1] + ", false, " + b[2] + ")", x.run(b[0], b[1], false, b[2]), 1);
      Due.refused(x, "run(" + b[0] + ", " + b[1] + ", true, " + b[2] + ")", x.run(b[0], b[1], true, b[2]), 1);
    }
    led(x, 0, 5);
    x.told(0, 2);
    Due.refused(x, "run(5, 9, true, 1): one truth is left", x.run(5, 9, true, 1), 1);
    Due.same("run(5, 9, true, 0)", x.run(5, 9, true, 0), 246);
    Due.edge("promise 24", "COST of THE WAY by WORST (or by MEAN) in a TRUTH");
    x.forget(0);
    int[][] due = {{0, 0, 246}, {0, 1, 246}, {1, 0, 66}, {1, 1, 290}};
    for (int[] d : due) Due.same("run(5, 9, " + (d[0] > 0) + ", " + d[1] + ")", x.run(5, 9, d[0] > 0, d[1]), d[2]);
    Due.same("trouble()", x.trouble(), 0);
  }

  private static void led() {
    Due.edge("promise 25", "NoSuchElementException if there is none such");
    SoftWheels x = new SoftWheels();
    led(x);
    Due.book(x, ROCK);
    x.map(3, 1);
    led(x);
    x.ground(1, 2);
    Due.refused(x, "run(0, 2, true, 0)", x.run(0, 2, true, 0), 6);
    led(x);
    Due.edge("promise 25", "The i-th CELL of the latest run() that told a COST (0: the first one)");
    x.ground(1, 0);
    x.run(0, 2, true, 0);
    led(x, 0, 1, 2);
    x.run(2, 1, false, 0);
    led(x, 2, 1);
    Due.refused(x, "run in no truth", x.run(0, 2, false, 1), 1);
    led(x, 2, 1);
    x.ground(1, 2);
    Due.refused(x, "run by no way", x.run(0, 2, false, 0), 6);
    x.worst(1, 2);
    x.regret(1, 2);
    x.way(1, 2, false);
    led(x, 2, 1);
    x.run(0, 0, false, 0);
    led(x, 0);
    // The longest lane on a map.
    SoftWheels y = rock(10, 10);
    for (int row = 1; row < 10; row += 2) {
      for (int c = 0; c < 10; c++) {
        if (c != (row % 4 == 1 ? 9 : 0)) y.height(10 * row + c, 999);
      }
    }
    int[] cells = new int[54];
    int k = 0;
    for (int row = 0; row < 9; row++) {
      if (row % 2 == 1) cells[k++] = 10 * row + (row % 4 == 1 ? 9 : 0);
      for (int c = 0; c < 10 && row % 2 == 0; c++) cells[k++] = 10 * row + (row % 4 == 0 ? c : 9 - c);
    }
    Due.same("run(0, 89, false, 0)", y.run(0, 89, false, 0), 11 * 53);
    led(y, cells);
    Due.same("run(0, 80, true, 0)", y.run(0, 80, true, 0), 11 * 44);
    led(y, Arrays.copyOf(cells, 45));
  }

  private static final String[] MAZE = {
    ".....#....",
    ".###....#.",
    "....~###..",
    "###.#~~~#.",
    ".~..#~#.#.",
    ".#.#.~#...",
    ".#0.~2#.##",
    "~S#.#~....",
    ".#4~~####.",
    "~~~1~~G3.."};

  /** Lured to one doubt behind another, all of them bog at last: far more cells than the map has. */
  private static void longRun() {
    Due.edge("promise 25", "The i-th CELL of the latest run(): of a run that comes to CELLS again and again");
    String text = "ground rock sinks 0 0 grips 0 80;ground mud sinks 0 90 grips 0 0, 90 9;ground bog sinks 0 101 grips 0 0;"
        + "ground awful sinks 0 100 grips 89 0,90 10;rover wheels 2 weight 100 clear 100 tip 100 drag 0";
    SoftWheels x = Due.withBook(text);
    SlowWheels y = new SlowWheels();
    for (int i = 0; i < text.length(); i += 20) {
      y.feed(Due.word(text, i), Due.word(text, i + 4), Due.word(text, i + 8), Due.word(text, i + 12), Due.word(text, i + 16));
    }
    y.book(text.length());
    x.map(10, 10);
    y.map(10, 10);
    for (int c = 0; c < 100; c++) {
      char is = MAZE[c / 10].charAt(c % 10);
      if (is == '#') {
        x.height(c, 999);
        y.height(c, 999);
      } else if (is == '~') {
        x.ground(c, 3);
        y.ground(c, 3);
      }
    }
    int[] doubts = {62, 93, 65, 97, 82};
    for (int d = 0; d < 5; d++) {
      x.doubt(doubts[d]);
      y.doubt(doubts[d]);
      x.weigh(d, 0, 9);
      y.weigh(d, 0, 9);
      x.weigh(d, 2, 1);
      y.weigh(d, 2, 1);
    }
    Due.same("truths()", x.truths(), 32);
    Due.same("run(71, 96, true, 31)", x.run(71, 96, true, 31), y.run(71, 96, true, 31));
    int[] cells = new int[194];
    for (int i = 0; i < 194; i++) cells[i] = y.led(i);
    led(x, cells);
    Due.same("its end", x.led(193), 96);
  }

  private static void regret() {
    SoftWheels x = ring();
    Due.edge("terms III", "REGRET: the greatest, over TRUTHS");
    Due.same("regret(5, 9): of the first truth", x.regret(5, 9), 180);
    Due.same("trouble()", x.trouble(), 0);
    x.weigh(0, 1, 1);
    // Rock 180, mud 0, bog 0.
    Due.same("regret(5, 9)", x.regret(5, 9), 180);
    x.weigh(0, 0, 0);
    Due.same("regret(5, 9) without the first truth", x.regret(5, 9), 0);
    Due.same("regret(1, 9): it is seen", x.regret(1, 9), 0);
    Due.edge("terms III", "REGRET: without OPEN DOUBTS 0");
    x.told(0, 2);
    Due.same("regret(5, 9)", x.regret(5, 9), 0);
    // The greatest is that of the last truth here: the first ground is the worst one.
    SoftWheels y = Due.withBook("ground bog sinks 0 101 grips 0 0;ground rock sinks 0 0 grips 0 80;ground mud sinks 0 90 grips 0 0, 90 9");
    y.map(5, 3);
    for (int c = 0; c < 15; c++) y.ground(c, c == 12 ? 2 : 1);
    for (int c = 6; c <= 8; c++) y.height(c, 999);
    y.doubt(2);
    y.weigh(0, 0, 1);
    y.weigh(0, 1, 1);
    y.weigh(0, 0, 9);
    Due.same("regret(5, 9): of the last truth", y.regret(5, 9), 180);
  }

  private static void worth() {
    SoftWheels x = ring();
    Due.edge("promise 27", "WORTH of a DOUBT: its numerator (or denominator), in lowest terms");
    // 442 by 5 less (9 times 66 and 246) by 10.
    worth(x, 0, 5, 9, 22, 5);
    Due.edge("promise 27", "a WORTH of 0: 0 by 1");
    worth(x, 0, 1, 9, 0, 1);
    worth(x, 0, 14, 9, 0, 1);
    x.doubt(14);
    worth(x, 1, 5, 9, 0, 1);
    Due.edge("promise 27", "5 (it is KNOWN)");
    x.told(0, 0);
    Due.refused(x, "worth(0, 5, 9, false)", x.worth(0, 5, 9, false), 5);
    Due.refused(x, "worth(0, 5, 9, true)", x.worth(0, 5, 9, true), 5);
    worth(x, 1, 5, 9, 0, 1);
    x.forget(0);
    worth(x, 0, 5, 9, 22, 5);
    x.told(1, 0);
    Due.refused(x, "worth(1, 5, 9, true)", x.worth(1, 5, 9, true), 5);
    worth(x, 0, 5, 9, 22, 5);
  }

  /** From 5 to 3 over a doubt at 2, ice or mud: by the right it is shorter and can't be on ice. */
  private static SoftWheels iceAndMud() {
    SoftWheels x = Due.withBook("ground ice sinks 0 0 grips 0 1;ground rock sinks 0 0 grips 0 80;"
        + "ground mud sinks 0 50 grips 0 100;rover wheels 4 weight 100 clear 100 tip 20 drag 0");
    x.map(4, 2);
    int[] heights = {15, 30, 30, 30, 0, 0, 15, 999};
    for (int c = 0; c < 8; c++) {
      x.height(c, heights[c]);
      if (c != 2) x.ground(c, 1);
    }
    x.doubt(2);
    x.weigh(0, 2, 2);
    return x;
  }

  private static void spared() {
    SoftWheels x = iceAndMud();
    Due.edge("promise 28", "SPARED: WORST less the greatest of WORSTS with it KNOWN");
    Due.same("spared(0, 5, 3)", x.spared(0, 5, 3), 5);
    Due.same("trouble()", x.trouble(), 0);
    Due.same("spared(0, 6, 3): it is seen", x.spared(0, 6, 3), 0);
    Due.same("spared in the ring: the worst truth stays", ring().spared(0, 5, 9), 0);
    Due.edge("promise 28", "5 (it is KNOWN)");
    x.told(0, 0);
    Due.refused(x, "spared(0, 5, 3)", x.spared(0, 5, 3), 5);
    x.forget(0);
    Due.same("spared(0, 5, 3)", x.spared(0, 5, 3), 5);
  }

  private static void knownFirst() {
    SoftWheels x = rock(3, 1);
    x.doubt(2);
    x.ground(1, 2);
    x.told(0, 0);
    Due.edge("promise 27", "5 stands ahead of 6, 1 ahead of 5");
    Due.refused(x, "worth(0, 0, 2, true) by no way", x.worth(0, 0, 2, true), 5);
    Due.refused(x, "worth(0, 3, 2, true)", x.worth(0, 3, 2, true), 1);
    Due.refused(x, "worth(0, 0, -1, true)", x.worth(0, 0, -1, true), 1);
    Due.edge("promise 28", "5 stands ahead of 6, 1 ahead of 5");
    Due.refused(x, "spared(0, 0, 2) by no way", x.spared(0, 0, 2), 5);
    Due.refused(x, "spared(0, 3, 2)", x.spared(0, 3, 2), 1);
    Due.refused(x, "spared(0, 0, -1)", x.spared(0, 0, -1), 1);
  }

  private static void weightsOfTruths() {
    Due.edge("terms III", "Its WEIGHT: the product of these");
    // Two doubts on the way: rock and rock, rock and mud, mud and rock, mud and mud.
    SoftWheels x = rock(3, 1);
    x.doubt(1);
    x.doubt(2);
    x.weigh(0, 0, 2);
    x.weigh(0, 1, 3);
    x.weigh(1, 0, 5);
    x.weigh(1, 1, 6);
    // By 10, 12, 15, 18 of 55.
    mean(x, 0, 2, (22 * 10 + 202 * 12 + 202 * 15 + 382 * 18) / 5, 11);
    Due.edge("terms III", "for each OPEN DOUBT: a KNOWN one doesn't weigh");
    x.told(0, 1);
    mean(x, 0, 2, 202 * 5 + 382 * 6, 11);
    x.told(1, 0);
    mean(x, 0, 2, 202, 1);
  }

  private static void leftTruths() {
    Due.edge("terms III", "the greatest COST over TRUTHS that are left (the mean) is the least");
    SoftWheels x = ring();
    // From 1 it is seen: on rock it goes on, though the round way is within WORST, too.
    Due.same("worst(1, 9)", x.worst(1, 9), 268);
    Due.same("run(1, 9, false, 0)", x.run(1, 9, false, 0), 44);
    led(x, 1, 2, 3, 4, 9);
    Due.same("run(1, 9, false, 1)", x.run(1, 9, false, 1), 268);
    led(x, 1, 0, 5, 10, 11, 12, 13, 14, 9);
    Due.edge("terms III", "WORST: the least that the greatest COST in all (over TRUTHS) of a WAY THROUGH can be");
    SoftWheels y = iceAndMud();
    Due.same("worst(5, 3)", y.worst(5, 3), 62);
    Due.same("in truth 0", y.run(5, 3, false, 0), 57);
    Due.same("in truth 1", y.run(5, 3, false, 1), 62);
    Due.edge("terms III", "MEAN: the least that its mean (by WEIGHTS of TRUTHS) can be");
    mean(y, 5, 3, 160, 3);
    Due.same("in truth 0", y.run(5, 3, true, 0), 80);
    Due.same("in truth 1", y.run(5, 3, true, 1), 40);
  }

  /** Each call is answered by what is told now, whatever was asked ahead of it. */
  private static void asItIsNow() {
    SoftWheels x = rock(4, 1);
    Due.edge("promises 11, 12, 9", "a height, a GROUND, DEAD wheels told anew count at once");
    ways(x, 0, 3, 33);
    x.height(1, 100);
    // Up by 100 is 1000 needed: 21.
    ways(x, 0, 3, 43);
    x.height(1, 101);
    Due.refused(x, "worst(0, 3)", x.worst(0, 3), 6);
    x.height(1, 0);
    ways(x, 0, 3, 33);
    x.ground(2, 1);
    ways(x, 0, 3, 213);
    x.dead(1);
    // Three wheels hold no mud: 900 of 75 times 9.
    Due.refused(x, "worst(0, 3)", x.worst(0, 3), 6);
    Due.refused(x, "mean(0, 3)", x.mean(0, 3, true), 6);
    x.dead(0);
    ways(x, 0, 3, 213);
    // Two of them one behind the other.
    x.dead(1);
    x.height(1, 0);
    Due.refused(x, "worst(0, 3)", x.worst(0, 3), 6);
    x.dead(0);
    x.ground(1, 1);
    ways(x, 0, 3, 393);
    x.ground(1, 0);
    x.height(1, 100);
    // Down by 100 into the mud nothing is needed.
    ways(x, 0, 3, 43);
    x.height(1, 0);
    x.dead(1);
    x.dead(0);
    ways(x, 0, 3, 213);
    Due.edge("promises 13, 14, 15, 16", "a DOUBT, its WEIGHTS, what is told of it and forgotten count at once");
    x.doubt(2);
    ways(x, 0, 3, 213);
    x.weigh(0, 0, 1);
    Due.same("worst(0, 3)", x.worst(0, 3), 213);
    mean(x, 0, 3, 123, 1);
    x.weigh(0, 0, 2);
    mean(x, 0, 3, 93, 1);
    x.told(0, 0);
    ways(x, 0, 3, 33);
    x.told(0, 1);
    ways(x, 0, 3, 213);
    x.forget(0);
    mean(x, 0, 3, 93, 1);
    x.weigh(0, 1, 0);
    ways(x, 0, 3, 33);
    Due.edge("promise 10", "a new MAP counts at once");
    x.weigh(0, 1, 1);
    x.worst(0, 3);
    x.mean(0, 3, true);
    x.map(4, 1);
    ways(x, 0, 3, 33);
    Due.same("way(1, 3): no doubt is seen", x.way(1, 3, true), 0);
    x.ground(2, 1);
    ways(x, 0, 3, 213);
    x.map(2, 2);
    ways(x, 0, 3, 22);
    Due.same("way(1, 3)", x.way(1, 3, true), 3);
    x.map(4, 1);
    ways(x, 0, 3, 33);
    Due.edge("promise 3", "a new BOOK counts at once");
    Due.book(x, "ground mud sinks 0 90 grips 0 0, 90 9");
    Due.refused(x, "worst(0, 3) without map", x.worst(0, 3), 1);
    x.map(4, 1);
    ways(x, 0, 3, 3 * 191);
    Due.edge("promises 19, 20", "another goal, and the first one again");
    ways(x, 0, 2, 2 * 191);
    ways(x, 3, 2, 191);
    ways(x, 0, 3, 3 * 191);
  }

  private static void ways(SoftWheels x, int from, int to, int cost) {
    Due.same("worst(" + from + ", " + to + ")", x.worst(from, to), cost);
    mean(x, from, to, cost, 1);
    Due.same("run(" + from + ", " + to + ", false, 0)", x.run(from, to, false, 0), cost);
    Due.same("run(" + from + ", " + to + ", true, 0)", x.run(from, to, true, 0), cost);
  }
}
