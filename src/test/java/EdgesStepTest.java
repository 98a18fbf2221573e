/** The edges of promises 7, 8, 9, 18 and of what a step is: a test for each sentence that names one. */
public final class EdgesStepTest {
  private static final int LEAST = Integer.MIN_VALUE;
  private static final int MOST = Integer.MAX_VALUE;

  public static void main(String[] args) {
    sinks();
    grips();
    curves();
    deadWheels();
    load();
    need();
    slip();
    offTheMap();
    steep();
    deep();
    noSlip();
    firstReason();
    cost();
    groundTold();
    refusals();
    Due.end("EdgesStepTest");
  }

  private static void step(SoftWheels x, int cell, int way, int ground, int why, int need, int slip, int cost) {
    int[] due = {why, need, slip, cost};
    for (int what = 0; what < 4; what++) {
      String call = "step(" + cell + ", " + way + ", " + ground + ", " + what + ")";
      Due.same(call, x.step(cell, way, ground, what), due[what]);
      Due.same("trouble() behind " + call, x.trouble(), 0);
    }
  }

  private static void cannot(SoftWheels x, int cell, int way, int ground, int why) {
    step(x, cell, way, ground, why, -2, -2, -2);
  }

  private static void sinks() {
    SoftWheels x = Due.withBook("ground a sinks 10 3,999 300 grips 0 1;ground b sinks 0 0,999 300 grips 0 1");
    Due.edge("promise 7", "DEPTH of a GROUND at a LOAD (0 .. 999)");
    Due.same("sink(0, 0)", x.sink(0, 0), 3);
    Due.same("sink(1, 0)", x.sink(1, 0), 0);
    Due.same("sink(1, 1)", x.sink(1, 1), 0);
    Due.same("sink(1, 998)", x.sink(1, 998), 299);
    Due.same("sink(1, 999)", x.sink(1, 999), 300);
    Due.same("trouble()", x.trouble(), 0);
    Due.edge("promise 7", "NONE: 1");
    for (int g : new int[] {-1, 2, 8, LEAST, MOST}) {
      Due.refused(x, "sink(" + g + ", 0)", x.sink(g, 0), 1);
      Due.refused(x, "sink(" + g + ", 1000): 1 stands first", x.sink(g, 1000), 1);
    }
    SoftWheels none = new SoftWheels();
    Due.refused(none, "sink(0, 0) without book", none.sink(0, 0), 1);
    Due.book(none, "try a each 0 one 0 cost 1");
    Due.refused(none, "sink(0, 0) without ground", none.sink(0, 0), 1);
    Due.edge("promise 7", "2");
    for (int load : new int[] {-1, 1000, LEAST, MOST}) Due.refused(x, "sink(0, " + load + ")", x.sink(0, load), 2);
  }

  private static void grips() {
    SoftWheels x = Due.withBook("ground a sinks 0 0 grips 10 3,80 150;ground b sinks 0 0 grips 0 150,90 0");
    Due.edge("promise 8", "PULL of a GROUND at a SLIP (0 .. 90)");
    Due.same("grip(0, 0)", x.grip(0, 0), 3);
    Due.same("grip(0, 90)", x.grip(0, 90), 150);
    Due.same("grip(1, 0)", x.grip(1, 0), 150);
    Due.same("grip(1, 1)", x.grip(1, 1), 148);
    Due.same("grip(1, 89)", x.grip(1, 89), 1);
    Due.same("grip(1, 90)", x.grip(1, 90), 0);
    Due.same("trouble()", x.trouble(), 0);
    Due.edge("promise 8", "NONE: 1");
    for (int g : new int[] {-1, 2, 8, LEAST, MOST}) {
      Due.refused(x, "grip(" + g + ", 0)", x.grip(g, 0), 1);
      Due.refused(x, "grip(" + g + ", -1): 1 stands first", x.grip(g, -1), 1);
    }
    SoftWheels none = new SoftWheels();
    Due.refused(none, "grip(0, 0) without book", none.grip(0, 0), 1);
    Due.book(none, "try a each 0 one 0 cost 1");
    Due.refused(none, "grip(0, 0) without ground", none.grip(0, 0), 1);
    Due.edge("promise 8", "2");
    for (int slip : new int[] {-1, 91, LEAST, MOST}) Due.refused(x, "grip(0, " + slip + ")", x.grip(0, slip), 2);
  }

  private static void curves() {
    SoftWheels x = Due.withBook("ground a sinks 10 3,13 5,14 5,24 6 grips 10 9,13 7,14 7,24 8;ground b sinks 500 7 grips 45 8");
    Due.edge("terms II", "DEPTH at LOAD: of the first pair below it");
    int[][] below = {{0, 3}, {9, 3}, {10, 3}};
    for (int[] s : below) Due.same("sink(0, " + s[0] + ")", x.sink(0, s[0]), s[1]);
    Due.same("one pair alone", x.sink(1, 0), 7);
    Due.same("grip(0, 0)", x.grip(0, 0), 9);
    Due.same("grip(1, 0)", x.grip(1, 0), 8);
    Due.edge("terms II", "of the last one above it");
    int[][] above = {{24, 6}, {25, 6}, {999, 6}};
    for (int[] s : above) Due.same("sink(0, " + s[0] + ")", x.sink(0, s[0]), s[1]);
    Due.same("one pair alone", x.sink(1, 999), 7);
    Due.same("at the pair", x.sink(1, 500), 7);
    Due.same("grip(0, 90)", x.grip(0, 90), 8);
    Due.same("grip(1, 90)", x.grip(1, 90), 8);
    Due.edge("terms II", "between two on the line, downwards");
    // 3, 3 2/3, 4 1/3, 5, 5, 5 1/10 .. 5 9/10, 6
    int[][] between = {{11, 3}, {12, 4}, {13, 5}, {14, 5}, {15, 5}, {23, 5}};
    for (int[] s : between) Due.same("sink(0, " + s[0] + ")", x.sink(0, s[0]), s[1]);
    Due.edge("terms II", "(PULL by SLIP likewise)");
    // 9, 8 1/3, 7 2/3, 7, 7, 7 1/10 .. 7 9/10, 8
    int[][] pulls = {{10, 9}, {11, 8}, {12, 7}, {13, 7}, {14, 7}, {23, 7}, {24, 8}};
    for (int[] g : pulls) Due.same("grip(0, " + g[0] + ")", x.grip(0, g[0]), g[1]);
  }

  private static void deadWheels() {
    Due.edge("promise 9", "So many wheels are DEAD (less than there are): true");
    for (int wheels = 2; wheels <= 6; wheels++) {
      SoftWheels x = Due.withBook("rover wheels " + wheels + " weight 1 clear 1 tip 0 drag 0");
      for (int n = 0; n < wheels; n++) {
        Due.same("dead(" + n + ") of " + wheels, x.dead(n), true);
        Due.same("trouble()", x.trouble(), 0);
        Due.same("count(7)", x.count(7), n);
      }
      Due.same("none again", x.dead(0), true);
      Due.same("count(7)", x.count(7), 0);
    }
    Due.edge("promise 9", "false: 1 (no BOOK)");
    SoftWheels none = new SoftWheels();
    for (int n : new int[] {0, 1, -1, LEAST, MOST}) Due.refused(none, "dead(" + n + ") without book", none.dead(n), 1);
    Due.edge("promise 9", "2");
    SoftWheels x = Due.withBook("try a each 0 one 0 cost 1");
    x.dead(3);
    for (int n : new int[] {4, 5, -1, LEAST, MOST}) {
      Due.refused(x, "dead(" + n + ") of 4", x.dead(n), 2);
      Due.same("count(7) stays", x.count(7), 3);
    }
    Due.edge("terms II", "DEAD wheels (0 at first)");
    SoftWheels y = Due.withBook("ground a sinks 0 0 grips 0 150;rover wheels 2 weight 20 clear 9 tip 9 drag 1");
    y.map(2, 1);
    step(y, 0, 0, 0, 0, 0, 0, 11);
    y.dead(1);
    step(y, 0, 0, 0, 0, 10, 0, 11);
    y.map(2, 1);
    step(y, 0, 0, 0, 0, 10, 0, 11);
    Due.book(y, "ground a sinks 0 0 grips 0 150;rover wheels 2 weight 20 clear 9 tip 9 drag 1");
    y.map(2, 1);
    step(y, 0, 0, 0, 0, 0, 0, 11);
  }

  private static void load() {
    Due.edge("terms II", "LOAD: weight by wheels, downwards");
    SoftWheels x = Due.withBook("ground a sinks 0 0,1 10,2 20 grips 0 1,10 2;rover wheels 6 weight 11 clear 20 tip 9 drag 1");
    x.map(2, 1);
    // 11 by 6 is 1: depth 10, 11 needed; a pull holds 6, so two of them.
    step(x, 0, 0, 0, 0, 11, 10, 12);
    x.dead(5);
    // 11 and 5 needed, a pull holds 1: not to be had.
    cannot(x, 0, 0, 0, 4);
    SoftWheels y = Due.withBook("ground a sinks 0 1,1 20 grips 0 150;ground b sinks 0 2 grips 0 150;rover wheels 6 weight 5 clear 20 tip 9 drag 99");
    y.map(2, 1);
    y.dead(5);
    // 5 by 6 is 0: nothing drags and nothing holds; 5 tenths are 0, ten tenths 1.
    step(y, 0, 0, 0, 0, 0, 0, 11);
    cannot(y, 0, 0, 1, 4);
  }

  private static void need() {
    SoftWheels x = Due.withBook("ground a sinks 0 0 grips 0 150;ground b sinks 0 5 grips 0 150;rover wheels 2 weight 7 clear 9 tip 9 drag 2");
    x.map(2, 1);
    x.height(0, 9);
    x.height(1, 9);
    Due.edge("terms II", "NEED: weight times (RISE and SINK) by 10, downwards");
    // 35 tenths; up by 1: 42; down by 1: 28.
    step(x, 0, 0, 1, 0, 3, 0, 11);
    x.height(1, 10);
    step(x, 0, 0, 1, 0, 4, 0, 11);
    step(x, 1, 1, 1, 0, 2, 0, 11);
    // Down by 1 is -7 tenths, downwards -1, and 6 by the drag.
    x.dead(1);
    step(x, 1, 1, 0, 0, 5, 0, 11);
    Due.edge("terms II", "together, 0 at least");
    x.height(1, 17);
    // Down by 8: -56 tenths, -6, and 6; by 9: -63, -7, and 6.
    step(x, 1, 1, 0, 0, 0, 0, 11);
    x.height(1, 18);
    step(x, 1, 1, 0, 0, 0, 0, 11);
    x.height(1, 16);
    step(x, 1, 1, 0, 0, 1, 0, 11);
    x.dead(0);
    step(x, 1, 1, 0, 0, 0, 0, 11);
    SoftWheels y = Due.withBook("ground a sinks 0 300 grips 0 150;rover wheels 6 weight 999 clear 300 tip 300 drag 99");
    y.map(2, 1);
    y.height(1, 300);
    y.dead(5);
    Due.edge("terms II", "DEAD wheels times LOAD times drag");
    // 166 a wheel: 59940 and 82170 are far above the 166 times 150 that hold.
    cannot(y, 0, 0, 0, 4);
    y.dead(0);
    step(y, 0, 0, 0, 0, 59940, 0, 610);
    step(y, 1, 1, 0, 0, 0, 0, 11);
    y.dead(1);
    // 16434 more, of 830 a pull: 92 are there.
    step(y, 0, 0, 0, 0, 76374, 0, 774);
  }

  private static void slip() {
    // A pull holds 10, and 1 is needed for each that it rises.
    String rover = ";rover wheels 2 weight 10 clear 99 tip 300 drag 0";
    Due.edge("terms II", "SLIP of the STEP: the least 0 .. 90 at which HOLD is no less than NEED");
    SoftWheels x = Due.withBook("ground a sinks 0 0 grips 0 1,30 4,60 2,90 6;ground b sinks 0 0 grips 89 0,90 1" + rover);
    x.map(2, 1);
    int[][] due = {{0, 0}, {10, 0}, {11, 10}, {20, 10}, {21, 20}, {30, 20}, {31, 30}, {40, 30}, {41, 83}, {50, 83}, {51, 90}, {60, 90}};
    for (int[] d : due) {
      x.height(1, d[0]);
      step(x, 0, 0, 0, 0, d[0], d[1], (1000 + d[0]) / (100 - d[1]) + 1);
    }
    x.height(1, 61);
    cannot(x, 0, 0, 0, 4);
    x.height(1, 0);
    step(x, 0, 0, 1, 0, 0, 0, 11);
    x.height(1, 1);
    step(x, 0, 0, 1, 0, 1, 90, 101);
    x.height(1, 10);
    step(x, 0, 0, 1, 0, 10, 90, 102);
    x.height(1, 11);
    cannot(x, 0, 0, 1, 4);
    SoftWheels y = Due.withBook("ground a sinks 0 0 grips 0 150,1 0;ground b sinks 0 0 grips 0 0" + rover);
    y.map(2, 1);
    y.height(1, 300);
    step(y, 0, 0, 0, 0, 300, 0, 14);
    y.height(1, 0);
    // Nothing holds and nothing is needed.
    step(y, 0, 0, 1, 0, 0, 0, 11);
    Due.edge("terms II", "HOLD at a SLIP: LOAD times wheels that aren't DEAD times PULL");
    SoftWheels z = Due.withBook("ground a sinks 0 0 grips 0 1,90 91;rover wheels 5 weight 50 clear 99 tip 300 drag 0");
    z.map(2, 1);
    z.height(1, 40);
    // 200 needed; 50, 40, 30, 20, 10 a pull.
    int[] slips = {3, 4, 6, 9, 19};
    for (int n = 0; n < 5; n++) {
      z.dead(n);
      step(z, 0, 0, 0, 0, 200, slips[n], 1200 / (100 - slips[n]) + 1);
    }
  }

  private static void offTheMap() {
    Due.edge("terms II", "1 off the MAP");
    SoftWheels x = Due.withBook("ground a sinks 0 0 grips 0 150");
    for (int wide = 1; wide <= 10; wide += 3) {
      for (int high = 1; high <= 10; high += 3) {
        x.map(wide, high);
        for (int cell = 0; cell < wide * high; cell++) {
          boolean[] off = {cell % wide == wide - 1, cell % wide == 0, cell < wide, cell >= wide * (high - 1)};
          // The last of a row is not beside the first of the next.
          for (int way = 0; way < 4; way++) {
            Due.same("step(" + cell + ", " + way + ") on " + wide + " by " + high, x.step(cell, way, 0, 0), off[way] ? 1 : 0);
          }
        }
      }
    }
    x.map(3, 2);
    cannot(x, 2, 0, 0, 1);
    cannot(x, 3, 1, 0, 1);
    cannot(x, 0, 1, 0, 1);
    cannot(x, 5, 0, 0, 1);
    cannot(x, 1, 2, 0, 1);
    cannot(x, 4, 3, 0, 1);
    Due.edge("terms III", "(y times wide and x; up: y less 1)");
    // Each cell by another height, so that it is told where a step comes to.
    for (int cell = 0; cell < 6; cell++) x.height(cell, cell * cell);
    step(x, 1, 0, 0, 0, 30, 0, 11);
    step(x, 4, 1, 0, 0, 0, 0, 11);
    step(x, 0, 3, 0, 0, 90, 0, 11);
    step(x, 1, 3, 0, 0, 150, 0, 12);
    step(x, 2, 3, 0, 0, 210, 0, 13);
    step(x, 5, 2, 0, 0, 0, 0, 11);
  }

  private static void steep() {
    Due.edge("terms II", "2 RISE without sign above tip");
    for (int tip : new int[] {0, 1, 300}) {
      SoftWheels x = Due.withBook("ground a sinks 0 0 grips 0 150;rover wheels 2 weight 10 clear 9 tip " + tip + " drag 0");
      x.map(1, 2);
      x.height(0, 500);
      x.height(1, 500 + tip);
      Due.same("up by tip", x.step(0, 3, 0, 0), 0);
      Due.same("down by tip", x.step(1, 2, 0, 0), 0);
      x.height(1, 501 + tip);
      cannot(x, 0, 3, 0, 2);
      cannot(x, 1, 2, 0, 2);
      x.height(1, 499 - tip);
      cannot(x, 0, 3, 0, 2);
      cannot(x, 1, 2, 0, 2);
    }
    SoftWheels x = Due.withBook("ground a sinks 0 0 grips 0 150;rover wheels 2 weight 10 clear 9 tip 300 drag 0");
    x.map(2, 1);
    x.height(0, 999);
    cannot(x, 0, 0, 0, 2);
    cannot(x, 1, 1, 0, 2);
  }

  private static void deep() {
    Due.edge("terms II", "3 SINK above clear");
    for (int clear : new int[] {1, 100, 299}) {
      SoftWheels x = Due.withBook("ground a sinks 0 " + clear + " grips 0 150;ground b sinks 0 " + (clear + 1)
          + " grips 0 150;rover wheels 2 weight 10 clear " + clear + " tip 9 drag 0");
      x.map(2, 1);
      step(x, 0, 0, 0, 0, clear, 0, (1000 + clear) / 100 + 1);
      cannot(x, 0, 0, 1, 3);
    }
    // At the load, not at another: 5 of the wheels' 10 by 2.
    SoftWheels x = Due.withBook("ground a sinks 5 9,6 10 grips 0 150;rover wheels 2 weight 11 clear 9 tip 9 drag 0");
    x.map(2, 1);
    Due.same("step(0, 0, 0, 0)", x.step(0, 0, 0, 0), 0);
    Due.book(x, "ground a sinks 5 9,6 10 grips 0 150;rover wheels 2 weight 12 clear 9 tip 9 drag 0");
    x.map(2, 1);
    cannot(x, 0, 0, 0, 3);
  }

  private static void noSlip() {
    Due.edge("terms II", "4 no SLIP");
    SoftWheels x = Due.withBook("ground a sinks 0 0 grips 0 149,45 150,46 0;ground b sinks 0 0 grips 0 0;"
        + "rover wheels 2 weight 2 clear 9 tip 300 drag 99");
    x.map(2, 1);
    // A pull holds 2, of one wheel 1; five that it rises need 1.
    x.height(1, 4);
    step(x, 0, 0, 1, 0, 0, 0, 11);
    x.height(1, 5);
    cannot(x, 0, 0, 1, 4);
    x.dead(1);
    x.height(1, 255);
    // 51 and 99: all that can be held.
    step(x, 0, 0, 0, 0, 150, 45, 21);
    x.height(1, 260);
    cannot(x, 0, 0, 0, 4);
    x.height(1, 250);
    step(x, 0, 0, 0, 0, 149, 0, 12);
  }

  private static void firstReason() {
    Due.edge("terms II", "(the first of these)");
    SoftWheels x = Due.withBook("ground a sinks 0 200 grips 0 0;ground b sinks 0 10 grips 0 0;rover wheels 2 weight 20 clear 10 tip 5 drag 0");
    x.map(2, 1);
    cannot(x, 1, 0, 0, 1);
    cannot(x, 0, 0, 0, 3);
    cannot(x, 0, 0, 1, 4);
    x.height(1, 6);
    cannot(x, 0, 0, 0, 2);
    cannot(x, 0, 0, 1, 2);
    cannot(x, 1, 1, 1, 2);
    x.height(1, 5);
    cannot(x, 0, 0, 0, 3);
  }

  private static void cost() {
    Due.edge("terms II", "COST: (1,000 and NEED) by (100 less SLIP), downwards, and 1");
    SoftWheels x = Due.withBook("ground a sinks 0 0 grips 0 150;ground b sinks 0 0 grips 89 0,90 150;"
        + "ground c sinks 0 0 grips 0 0,1 150;rover wheels 2 weight 10 clear 9 tip 300 drag 0");
    x.map(2, 1);
    int[][] flat = {{0, 11}, {99, 11}, {100, 12}, {199, 12}, {200, 13}, {300, 14}};
    for (int[] f : flat) {
      x.height(1, f[0]);
      step(x, 0, 0, 0, 0, f[0], 0, f[1]);
    }
    int[][] wild = {{1, 101}, {9, 101}, {10, 102}, {19, 102}, {300, 131}};
    for (int[] w : wild) {
      x.height(1, w[0]);
      step(x, 0, 0, 1, 0, w[0], 90, w[1]);
    }
    // By 99: 1088 and 1089.
    x.height(1, 88);
    step(x, 0, 0, 2, 0, 88, 1, 11);
    x.height(1, 89);
    step(x, 0, 0, 2, 0, 89, 1, 12);
  }

  private static void groundTold() {
    Due.edge("promise 18", "the CELL it comes to being of a GROUND");
    SoftWheels x = Due.withBook("ground a sinks 0 0 grips 0 150;ground b sinks 0 5 grips 0 150;ground c sinks 0 101 grips 0 150");
    x.map(2, 1);
    for (int there = 0; there < 3; there++) {
      x.ground(1, there);
      x.ground(0, 2 - there);
      step(x, 0, 0, 0, 0, 0, 0, 11);
      step(x, 0, 0, 1, 0, 50, 0, 11);
      cannot(x, 0, 0, 2, 3);
    }
    x.ground(1, 0);
    x.doubt(1);
    step(x, 0, 0, 1, 0, 50, 0, 11);
    cannot(x, 0, 0, 2, 3);
    x.told(0, 0);
    step(x, 0, 0, 1, 0, 50, 0, 11);
    Due.edge("promise 18", "what 0 why it CAN'T be (0: it can), 1 NEED, 2 SLIP, 3 COST (-2 of these if it CAN'T be)");
    cannot(x, 0, 1, 0, 1);
    x.height(1, 101);
    cannot(x, 0, 0, 0, 2);
    x.height(1, 100);
    step(x, 0, 0, 0, 0, 1000, 0, 21);
    cannot(x, 0, 0, 2, 3);
    // What was asked ahead of it doesn't count.
    Due.same("step(0, 0, 0, 3)", x.step(0, 0, 0, 3), 21);
    Due.same("step(0, 0, 2, 3)", x.step(0, 0, 2, 3), -2);
    Due.same("step(0, 0, 0, 1)", x.step(0, 0, 0, 1), 1000);
  }

  private static void refusals() {
    Due.edge("promise 18", "NONE: 1");
    SoftWheels x = new SoftWheels();
    Due.refused(x, "step(0, 0, 0, 0) without book", x.step(0, 0, 0, 0), 1);
    Due.book(x, "ground a sinks 0 0 grips 0 150;ground b sinks 0 0 grips 0 150");
    Due.refused(x, "step(0, 0, 0, 0) without map", x.step(0, 0, 0, 0), 1);
    x.map(2, 2);
    for (int cell : new int[] {-1, 4, 100, LEAST, MOST}) Due.refused(x, "step(" + cell + ", 0, 0, 0)", x.step(cell, 0, 0, 0), 1);
    for (int way : new int[] {-1, 4, LEAST, MOST}) Due.refused(x, "step(0, " + way + ", 0, 0)", x.step(0, way, 0, 0), 1);
    for (int g : new int[] {-1, 2, 8, LEAST, MOST}) Due.refused(x, "step(0, 0, " + g + ", 0)", x.step(0, 0, g, 0), 1);
    for (int what : new int[] {-1, 4, LEAST, MOST}) Due.refused(x, "step(0, 0, 0, " + what + ")", x.step(0, 0, 0, what), 1);
    Due.refused(x, "step(0, 1, 2, 0): no ground, and off the map", x.step(0, 1, 2, 0), 1);
    step(x, 3, 2, 1, 0, 0, 0, 11);
  }
}
