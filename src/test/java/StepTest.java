/** Promise 18: what a step needs, slips and costs, and why it can't be. */
public final class StepTest {
  public static void main(String[] args) {
    numbers();
    whyNot();
    firstReason();
    deadWheelsDrag();
    heavy();
    wholePull();
    noLoad();
    wrongInputs();
    Due.end("StepTest");
  }

  private static void step(SoftWheels x, int cell, int way, int ground, int... due) {
    for (int what = 0; what < 4; what++) {
      String call = "step(" + cell + ", " + way + ", " + ground + ", " + what + ")";
      Due.same(call, x.step(cell, way, ground, what), due[what]);
      Due.same("trouble() behind " + call, x.trouble(), 0);
    }
  }

  private static void cannot(SoftWheels x, int cell, int way, int ground, int why) {
    step(x, cell, way, ground, why, -2, -2, -2);
  }

  private static void numbers() {
    // Load 33 (100 by 3); a: depth 3 there; b: grips best at 20, less behind it.
    SoftWheels x = Due.withBook("ground a sinks 30 0, 40 10 grips 0 0, 90 90;ground b sinks 0 7 grips 10 1, 20 5, 30 2;"
        + "rover wheels 3 weight 100 clear 50 tip 40 drag 5");
    x.map(2, 2);
    // 100 * 3 / 10; 99 a pull: slip 1; 1030 / 99 and 1.
    step(x, 0, 0, 0, 0, 30, 1, 11);
    step(x, 3, 1, 0, 0, 30, 1, 11);
    step(x, 3, 2, 0, 0, 30, 1, 11);
    step(x, 0, 3, 0, 0, 30, 1, 11);
    // 70: one pull is enough, at slip 0 as at 10.
    step(x, 0, 0, 1, 0, 70, 0, 11);
    x.height(1, 10);
    // 170: two pulls; from 10 to 20 four more, the second at 13 (1 + 12 / 10).
    step(x, 0, 0, 1, 0, 170, 13, 14);
    x.height(1, 40);
    // 470: five pulls, at 20 alone.
    step(x, 0, 0, 1, 0, 470, 20, 19);
    // Down: 100 * (7 - 40) / 10 is below 0.
    step(x, 1, 1, 1, 0, 0, 0, 11);
    // Up and down of y: cell 3 is below cell 1.
    step(x, 3, 2, 0, 0, 430, 5, 16);
  }

  private static void whyNot() {
    SoftWheels x = Due.withBook("ground a sinks 0 10 grips 0 1;ground b sinks 0 11 grips 0 150;"
        + "rover wheels 2 weight 20 clear 10 tip 5 drag 0");
    x.map(2, 2);
    cannot(x, 0, 1, 0, 1);
    cannot(x, 0, 2, 0, 1);
    cannot(x, 3, 0, 0, 1);
    cannot(x, 3, 3, 0, 1);
    cannot(x, 1, 0, 0, 1);
    cannot(x, 0, 0, 1, 3);
    // 20 * 10 / 10 is 20, and so is the hold: 10 * 2 * 1.
    step(x, 0, 0, 0, 0, 20, 0, 11);
    x.height(1, 1);
    cannot(x, 0, 0, 0, 4);
    x.height(1, 6);
    cannot(x, 0, 0, 0, 2);
    cannot(x, 1, 1, 0, 2);
    x.height(1, 5);
    cannot(x, 0, 0, 0, 4);
    step(x, 1, 1, 0, 0, 10, 0, 11);
  }

  private static void firstReason() {
    SoftWheels x = Due.withBook("ground a sinks 0 200 grips 0 0;rover wheels 2 weight 20 clear 10 tip 5 drag 0");
    x.map(2, 1);
    cannot(x, 0, 0, 0, 3);
    x.height(1, 6);
    cannot(x, 0, 0, 0, 2);
    cannot(x, 0, 1, 0, 1);
  }

  private static void deadWheelsDrag() {
    SoftWheels x = Due.withBook("ground a sinks 0 0 grips 0 0, 90 90;rover wheels 4 weight 103 clear 10 tip 50 drag 7");
    x.map(2, 1);
    x.height(0, 1);
    // Down by 1: 103 * -1 / 10 is -10.3, downwards -11; one dead: 25 * 7 is 175; hold 75 a pull.
    x.dead(1);
    step(x, 0, 0, 0, 0, 164, 3, 13);
    x.dead(3);
    // 525 - 11; 25 a pull.
    step(x, 0, 0, 0, 0, 514, 21, 20);
    x.dead(0);
    step(x, 0, 0, 0, 0, 0, 0, 11);
    step(x, 1, 1, 0, 0, 10, 1, 11);
  }

  private static void heavy() {
    SoftWheels x = Due.withBook("ground a sinks 0 300 grips 89 0, 90 150;rover wheels 6 weight 999 clear 300 tip 300 drag 0");
    x.map(1, 2);
    x.height(0, 300);
    // 999 * 600 / 10; a hold of 996 a pull at 90: 61 are wanted, 150 there.
    step(x, 1, 2, 0, 0, 59940, 90, 6095);
    x.height(0, 301);
    cannot(x, 1, 2, 0, 2);
  }

  /** The greatest pull that can be told, needed whole: 3 * 25 * 50 by 25. */
  private static void wholePull() {
    SoftWheels x = Due.withBook("ground a sinks 0 0 grips 0 149, 30 150, 31 0;rover wheels 4 weight 100 clear 9 tip 9 drag 50");
    x.map(2, 1);
    x.dead(3);
    step(x, 0, 0, 0, 0, 3750, 30, 68);
    x.height(1, 1);
    cannot(x, 0, 0, 0, 4);
    step(x, 1, 1, 0, 0, 3740, 30, 68);
    x.height(1, 3);
    step(x, 1, 1, 0, 0, 3720, 0, 48);
  }

  private static void noLoad() {
    SoftWheels x = Due.withBook("ground a sinks 0 9 grips 0 150;ground b sinks 0 10 grips 0 150;"
        + "rover wheels 2 weight 1 clear 300 tip 300 drag 99");
    x.map(2, 1);
    x.dead(1);
    step(x, 0, 0, 0, 0, 0, 0, 11);
    cannot(x, 0, 0, 1, 4);
  }

  private static void wrongInputs() {
    SoftWheels x = new SoftWheels();
    Due.refused(x, "step(0, 0, 0, 0) without book", x.step(0, 0, 0, 0), 1);
    Due.book(x, "ground a sinks 0 9 grips 0 150");
    Due.refused(x, "step(0, 0, 0, 0) without map", x.step(0, 0, 0, 0), 1);
    x.map(2, 1);
    int[][] bad = {{-1, 0, 0, 0}, {2, 0, 0, 0}, {0, -1, 0, 0}, {0, 4, 0, 0}, {0, 0, -1, 0}, {0, 0, 1, 0}, {0, 0, 0, -1}, {0, 0, 0, 4},
        {Integer.MAX_VALUE, Integer.MIN_VALUE, 0, 0}};
    for (int[] b : bad) {
      Due.refused(x, "step(" + b[0] + ", " + b[1] + ", " + b[2] + ", " + b[3] + ")", x.step(b[0], b[1], b[2], b[3]), 1);
    }
    x.doubt(1);
    Due.same("the ground is told, not that of the doubt", x.step(0, 0, 0, 0), 0);
  }
}
