import java.util.NoSuchElementException;

/** Promises 19 to 28: worst, mean, the ways by them, truths, runs, regret, what it is worth to be told. */
public final class WaysTest {
  /** On the level a step costs 11 onto rock, 191 onto mud, and can't be onto bog. */
  private static final String ROCK = "ground rock sinks 0 0 grips 0 80;ground mud sinks 0 90 grips 0 0, 90 9;"
      + "ground bog sinks 0 101 grips 0 0";
  private static final long NOTHING = Long.MIN_VALUE;

  public static void main(String[] args) {
    allKnown();
    round();
    iceAndMud();
    truthNumbers();
    fractions();
    noWay();
    mustComeInEachTruth();
    stuckBehind();
    changesCount();
    wrongInputs();
    Due.end("WaysTest");
  }

  private static boolean throwsAt(SoftWheels x, int i) {
    try {
      x.led(i);
      return false;
    } catch (NoSuchElementException e) {
      return true;
    }
  }

  private static void led(SoftWheels x, int... cells) {
    for (int i = 0; i < cells.length; i++) {
      Due.that("led(" + i + ") is there", !throwsAt(x, i));
      if (!throwsAt(x, i)) Due.same("led(" + i + ")", x.led(i), cells[i]);
    }
    Due.that("led(" + cells.length + ") throws", throwsAt(x, cells.length));
    Due.that("led(-1) throws", throwsAt(x, -1));
    Due.that("led(max) throws", throwsAt(x, Integer.MAX_VALUE));
  }

  private static void mean(SoftWheels x, int from, int to, long over, long under) {
    Due.same("mean(" + from + ", " + to + ", false)", x.mean(from, to, false), over);
    Due.same("mean(" + from + ", " + to + ", true)", x.mean(from, to, true), under);
    Due.same("trouble()", x.trouble(), 0);
  }

  private static void worth(SoftWheels x, int doubt, int from, int to, long over, long under) {
    Due.same("worth numerator", x.worth(doubt, from, to, false), over);
    Due.same("worth denominator", x.worth(doubt, from, to, true), under);
    Due.same("trouble()", x.trouble(), 0);
  }

  private static void allKnown() {
    SoftWheels x = Due.withBook(ROCK);
    Due.that("led(0) ahead of any run throws", throwsAt(x, 0));
    x.map(3, 3);
    Due.same("truths()", x.truths(), 1);
    Due.same("worst(0, 8)", x.worst(0, 8), 44);
    Due.same("trouble()", x.trouble(), 0);
    mean(x, 0, 8, 44, 1);
    Due.same("way(0, 8): the least number", x.way(0, 8, false), 0);
    Due.same("way(8, 0): left ahead of up", x.way(8, 0, true), 1);
    Due.same("way(6, 2): right ahead of up", x.way(6, 2, true), 0);
    Due.same("way(2, 6): left ahead of down", x.way(2, 6, false), 1);
    Due.same("way(0, 6)", x.way(0, 6, false), 3);
    Due.same("way(6, 0)", x.way(6, 0, false), 2);
    Due.same("way(4, 4)", x.way(4, 4, true), 4);
    Due.same("run(0, 8)", x.run(0, 8, false, 0), 44);
    led(x, 0, 1, 2, 5, 8);
    x.ground(1, 1);
    x.ground(5, 1);
    Due.same("way(0, 8) round the mud", x.way(0, 8, false), 3);
    Due.same("run(0, 8)", x.run(0, 8, true, 0), 44);
    led(x, 0, 3, 4, 7, 8);
    x.ground(3, 1);
    x.ground(4, 2);
    Due.same("worst(0, 8) through mud twice", x.worst(0, 8), 224);
    Due.same("way(0, 8)", x.way(0, 8, false), 3);
    Due.same("regret(0, 8)", x.regret(0, 8), 0);
    Due.same("worst(4, 4)", x.worst(4, 4), 0);
    mean(x, 4, 4, 0, 1);
    Due.same("regret(4, 4)", x.regret(4, 4), 0);
    Due.same("run(4, 4)", x.run(4, 4, false, 0), 0);
    led(x, 4);
  }

  /** Above a short way with a doubt in its midst, below a dear one without. */
  private static SoftWheels ring() {
    SoftWheels x = Due.withBook(ROCK);
    x.map(5, 3);
    for (int c = 6; c <= 8; c++) x.height(c, 999);
    x.ground(12, 1);
    x.doubt(2);
    x.weigh(0, 0, 9);
    x.weigh(0, 2, 1);
    return x;
  }

  private static void round() {
    SoftWheels x = ring();
    Due.same("worst(5, 9)", x.worst(5, 9), 246);
    // (9 * 66 + 22 + 22 + 246) by 10
    mean(x, 5, 9, 442, 5);
    Due.same("way by worst", x.way(5, 9, false), 3);
    Due.same("way by mean", x.way(5, 9, true), 2);
    Due.same("run by worst, truth 0", x.run(5, 9, false, 0), 246);
    led(x, 5, 10, 11, 12, 13, 14, 9);
    Due.same("run by worst, truth 1", x.run(5, 9, false, 1), 246);
    Due.same("run by mean, truth 0", x.run(5, 9, true, 0), 66);
    led(x, 5, 0, 1, 2, 3, 4, 9);
    Due.same("run by mean, truth 1", x.run(5, 9, true, 1), 290);
    led(x, 5, 0, 1, 0, 5, 10, 11, 12, 13, 14, 9);
    Due.refused(x, "run of no truth", x.run(5, 9, true, 2), 1);
    led(x, 5, 0, 1, 0, 5, 10, 11, 12, 13, 14, 9);
    Due.same("regret(5, 9)", x.regret(5, 9), 180);
    led(x, 5, 0, 1, 0, 5, 10, 11, 12, 13, 14, 9);
    worth(x, 0, 5, 9, 22, 5);
    Due.same("spared(0, 5, 9)", x.spared(0, 5, 9), 0);
    // From cell 1 it is seen at once.
    Due.same("worst(1, 9)", x.worst(1, 9), 268);
    mean(x, 1, 9, (9 * 44 + 268) / 2, 5);
    worth(x, 0, 1, 9, 0, 1);
    Due.refused(x, "way(1, 9)", x.way(1, 9, true), 5);
    Due.refused(x, "way(2, 9): its own cell", x.way(2, 9, true), 5);
    Due.refused(x, "way(7, 9): below it", x.way(7, 9, true), 5);
    // 5 stands ahead of what is told at the goal.
    Due.refused(x, "way(1, 1)", x.way(1, 1, true), 5);
    Due.same("way(9, 9)", x.way(9, 9, true), 4);
    x.told(0, 0);
    Due.same("way(1, 1) when it is known", x.way(1, 1, true), 4);
    Due.same("way(1, 9) when it is known", x.way(1, 9, true), 0);
    Due.same("worst(5, 9) when it is known", x.worst(5, 9), 66);
    Due.same("truths()", x.truths(), 1);
    x.told(0, 2);
    Due.same("way(1, 9) when it is bog", x.way(1, 9, true), 1);
    mean(x, 5, 9, 246, 1);
    x.forget(0);
    mean(x, 5, 9, 442, 5);
  }

  /**
   * From 5 to 3 over a doubt at 2: by the left it comes to it on the level, by the right
   * uphill, which is shorter and can't be on ice.
   */
  private static void iceAndMud() {
    SoftWheels x = Due.withBook("ground ice sinks 0 0 grips 0 1;ground rock sinks 0 0 grips 0 80;"
        + "ground mud sinks 0 50 grips 0 100;rover wheels 4 weight 100 clear 100 tip 20 drag 0");
    x.map(4, 2);
    int[] heights = {15, 30, 30, 30, 0, 0, 15, 999};
    for (int c = 0; c < 8; c++) {
      x.height(c, heights[c]);
      if (c != 2) x.ground(c, 1);
    }
    x.doubt(2);
    x.weigh(0, 2, 2);
    Due.same("worst(5, 3)", x.worst(5, 3), 62);
    mean(x, 5, 3, 160, 3);
    Due.same("spared(0, 5, 3)", x.spared(0, 5, 3), 5);
    Due.same("trouble()", x.trouble(), 0);
    worth(x, 0, 5, 3, 23, 3);
    Due.same("regret(5, 3)", x.regret(5, 3), 22);
    Due.same("way by worst", x.way(5, 3, false), 1);
    Due.same("way by mean", x.way(5, 3, true), 0);
    Due.same("run by mean on ice", x.run(5, 3, true, 0), 80);
    led(x, 5, 6, 5, 4, 0, 1, 2, 3);
    Due.same("run by mean on mud", x.run(5, 3, true, 1), 40);
    led(x, 5, 6, 2, 3);
    Due.same("run by worst on ice", x.run(5, 3, false, 0), 57);
    Due.same("run by worst on mud", x.run(5, 3, false, 1), 62);
  }

  private static void truthNumbers() {
    SoftWheels x = Due.withBook(ROCK);
    Due.same("truths() without map", x.truths(), 0);
    Due.same("truth(0, 0) without map", x.truth(0, 0), -1);
    x.map(10, 10);
    Due.same("truth(0, 0) without doubt", x.truth(0, 0), -1);
    int[][] of = {{1, 2}, {0}, {0, 1, 2}};
    for (int d = 0; d < 3; d++) {
      x.doubt(20 * d + 5);
      for (int g = 0; g < 3; g++) {
        boolean has = false;
        for (int h : of[d]) has |= h == g;
        if (has) x.weigh(d, g, 1 + g);
      }
      if (d == 0) x.weigh(0, 0, 0);
    }
    Due.same("truths()", x.truths(), 6);
    int number = 0;
    for (int a : of[0]) {
      for (int c : of[2]) {
        Due.same("truth(" + number + ", 0)", x.truth(number, 0), a);
        Due.same("truth(" + number + ", 1)", x.truth(number, 1), 0);
        Due.same("truth(" + number + ", 2)", x.truth(number, 2), c);
        number++;
      }
    }
    Due.same("truth(6, 0)", x.truth(6, 0), -1);
    Due.same("truth(-1, 0)", x.truth(-1, 0), -1);
    Due.same("truth(0, 3)", x.truth(0, 3), -1);
    Due.same("truth(0, -1)", x.truth(0, -1), -1);
    x.told(0, 2);
    Due.same("truths()", x.truths(), 3);
    Due.same("truth(1, 0): what is known", x.truth(1, 0), 2);
    Due.same("truth(1, 2)", x.truth(1, 2), 1);
    x.told(2, 1);
    Due.same("truths()", x.truths(), 1);
    Due.same("truth(0, 2)", x.truth(0, 2), 1);
    x.doubt(0);
    x.doubt(1);
    for (int d = 1; d < 5; d++) {
      for (int g = 0; g < 3; g++) x.weigh(d, g, 9);
    }
    x.forget(2);
    Due.same("truths()", x.truths(), 81);
    x.forget(0);
    x.weigh(0, 0, 9);
    Due.same("truths()", x.truths(), 243);
    Due.same("truth(242, 4)", x.truth(242, 4), 2);
    Due.same("truth(162, 0)", x.truth(162, 0), 2);
    Due.same("truth(162, 1)", x.truth(162, 1), 0);
  }

  /** A lane with five doubts: its mean is the sum of theirs. */
  private static void fractions() {
    SoftWheels x = Due.withBook(ROCK);
    x.map(10, 1);
    int[] cells = {1, 3, 5, 7, 9};
    int[][] weights = {{9, 8}, {9, 4}, {9, 2}, {3, 4}, {2, 3}};
    for (int d = 0; d < 5; d++) {
      x.doubt(cells[d]);
      x.weigh(d, 0, weights[d][0]);
      x.weigh(d, 1, weights[d][1]);
    }
    mean(x, 0, 9, 8213679, 17017);
    Due.same("worst(0, 9)", x.worst(0, 9), 5 * 191 + 4 * 11);
    Due.same("regret(0, 9)", x.regret(0, 9), 0);
    worth(x, 3, 0, 9, 0, 1);
    Due.same("run in the last truth", x.run(0, 9, true, 31), 5 * 191 + 4 * 11);
    Due.same("run in the first truth", x.run(0, 9, true, 0), 99);
    Due.same("run in truth 16: the first doubt counts most", x.run(0, 9, true, 16), 99 + 180);
    led(x, 0, 1, 2, 3, 4, 5, 6, 7, 8, 9);
    x.told(0, 1);
    // Known ones don't weigh: 191 instead of 1627 by 17.
    mean(x, 0, 9, (8213679L * 17 - 17017L * 1627 + 17017L * 17 * 191) / 17 / 17, 1001);
  }

  private static void noWay() {
    SoftWheels x = Due.withBook(ROCK);
    x.map(3, 1);
    x.ground(1, 2);
    x.run(0, 0, true, 0);
    Due.refused(x, "worst(0, 2)", x.worst(0, 2), 6);
    Due.same("mean(0, 2)", x.mean(0, 2, false), NOTHING);
    Due.same("trouble()", x.trouble(), 6);
    Due.refused(x, "way(0, 2)", x.way(0, 2, false), 6);
    Due.refused(x, "run(0, 2)", x.run(0, 2, false, 0), 6);
    Due.refused(x, "regret(0, 2)", x.regret(0, 2), 6);
    led(x, 0);
    x.doubt(2);
    Due.same("worth(0, 0, 2)", x.worth(0, 0, 2, true), NOTHING);
    Due.same("trouble()", x.trouble(), 6);
    Due.refused(x, "spared(0, 0, 2)", x.spared(0, 0, 2), 6);
    Due.same("worst(1, 2): out of the bog", x.worst(1, 2), 11);
  }

  private static void mustComeInEachTruth() {
    SoftWheels x = Due.withBook(ROCK);
    x.map(3, 1);
    x.doubt(1);
    x.weigh(0, 0, 9);
    x.weigh(0, 2, 1);
    Due.refused(x, "worst(0, 2)", x.worst(0, 2), 6);
    Due.refused(x, "mean(0, 2)", x.mean(0, 2, true), 6);
    Due.refused(x, "run(0, 2) in the truth that would do", x.run(0, 2, true, 0), 6);
    Due.refused(x, "worth(0, 0, 2)", x.worth(0, 0, 2, true), 6);
    Due.refused(x, "way(0, 2): it is seen there", x.way(0, 2, true), 5);
    x.told(0, 0);
    Due.same("worst(0, 2) when it is known", x.worst(0, 2), 22);
  }

  /** A pit that can be entered and not left is no way to look at a doubt behind it. */
  private static void stuckBehind() {
    SoftWheels x = Due.withBook("ground rock sinks 0 0 grips 0 10;ground bog sinks 0 200 grips 0 0;"
        + "rover wheels 4 weight 100 clear 100 tip 300 drag 0");
    x.map(4, 1);
    x.height(0, 300);
    x.height(3, 10);
    // Hold 1000 for a need of 10 * rise: down 300, but never up 300.
    Due.same("worst(0, 3)", x.worst(0, 3), 11 + 11 + 12);
    Due.refused(x, "worst(3, 0)", x.worst(3, 0), 6);
    x.doubt(3);
    x.weigh(0, 1, 1);
    Due.refused(x, "worst(0, 3)", x.worst(0, 3), 6);
    Due.same("worst(0, 2)", x.worst(0, 2), 22);
  }

  /** What was found is not kept when the land, the dead wheels or weights change. */
  private static void changesCount() {
    SoftWheels x = ring();
    mean(x, 5, 9, 442, 5);
    x.weigh(0, 2, 3);
    mean(x, 5, 9, (9 * 66 + 3 * 290) / 12, 1);
    x.ground(12, 0);
    Due.same("worst(5, 9)", x.worst(5, 9), 66);
    x.height(12, 999);
    Due.refused(x, "worst(5, 9)", x.worst(5, 9), 6);
    x.height(12, 0);
    Due.same("worst(5, 9)", x.worst(5, 9), 66);
    x.doubt(12);
    x.weigh(1, 1, 1);
    Due.same("worst(5, 9) with two doubts", x.worst(5, 9), 246);
    Due.same("worst(5, 14) to another goal", x.worst(5, 14), 235);
    x.map(5, 3);
    Due.same("worst(5, 14) on a new map", x.worst(5, 14), 55);
    Due.same("worst(5, 9) on a new map", x.worst(5, 9), 44);
    x.ground(8, 1);
    x.ground(7, 1);
    Due.same("way round", x.worst(5, 9), 66);
    x.map(3, 5);
    Due.same("worst(5, 14) on one of another form", x.worst(5, 14), 33);
    Due.book(x, ROCK + ";rover wheels 4 weight 100 clear 100 tip 100 drag 99");
    x.map(2, 1);
    Due.same("worst(0, 1)", x.worst(0, 1), 11);
    x.dead(1);
    // 2475 needed of 75 a pull: 33, and 80 are there.
    Due.same("worst(0, 1) with one dead", x.worst(0, 1), 35);
    mean(x, 0, 1, 35, 1);
  }

  private static void wrongInputs() {
    SoftWheels x = new SoftWheels();
    Due.same("mean without map", x.mean(0, 0, true), NOTHING);
    Due.same("trouble()", x.trouble(), 1);
    Due.refused(x, "worst without map", x.worst(0, 0), 1);
    Due.refused(x, "way without map", x.way(0, 0, false), 1);
    Due.refused(x, "run without map", x.run(0, 0, false, 0), 1);
    Due.refused(x, "regret without map", x.regret(0, 0), 1);
    Due.refused(x, "spared without map", x.spared(0, 0, 0), 1);
    Due.same("worth without map", x.worth(0, 0, 0, true), NOTHING);
    x = ring();
    int[][] bad = {{-1, 0}, {0, -1}, {15, 0}, {0, 15}, {Integer.MIN_VALUE, Integer.MAX_VALUE}};
    for (int[] b : bad) {
      String at = "(" + b[0] + ", " + b[1] + ")";
      Due.refused(x, "worst" + at, x.worst(b[0], b[1]), 1);
      Due.refused(x, "mean" + at, x.mean(b[0], b[1], false), 1);
      Due.refused(x, "way" + at, x.way(b[0], b[1], false), 1);
      Due.refused(x, "run" + at, x.run(b[0], b[1], false, 0), 1);
      Due.refused(x, "regret" + at, x.regret(b[0], b[1]), 1);
      Due.refused(x, "worth" + at, x.worth(0, b[0], b[1], false), 1);
      Due.refused(x, "spared" + at, x.spared(0, b[0], b[1]), 1);
    }
    Due.refused(x, "run in truth -1", x.run(5, 9, false, -1), 1);
    Due.refused(x, "run in truth 2", x.run(5, 9, false, 2), 1);
    Due.refused(x, "worth of doubt 1", x.worth(1, 5, 9, false), 1);
    Due.refused(x, "worth of doubt -1", x.worth(-1, 5, 9, false), 1);
    Due.refused(x, "spared of doubt 1", x.spared(1, 5, 9), 1);
    Due.refused(x, "spared of doubt -1", x.spared(-1, 5, 9), 1);
    x.told(0, 0);
    Due.refused(x, "worth of a known one", x.worth(0, 5, 9, false), 5);
    Due.refused(x, "spared of a known one", x.spared(0, 5, 9), 5);
    Due.refused(x, "worth of a known one from nowhere", x.worth(0, 15, 9, false), 1);
  }
}
