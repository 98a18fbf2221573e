import java.util.Arrays;
import java.util.Random;

/**
 * Promises 19 to 21, 24, 26 on rough maps with nothing in doubt: what steps cost is asked of step(), and the least of it
 * is found by going over all cells again and again. There the order in which cells are looked at shows, if it is wrong.
 */
public final class RoughTest {
  private static final String BOOK = "ground a sinks 0 0 grips 0 150;ground b sinks 0 0 grips 0 1, 90 90;"
      + "ground c sinks 0 100 grips 0 10, 90 20;ground d sinks 0 50 grips 20 0, 40 90;ground e sinks 0 20 grips 0 3, 5 9, 90 90;"
      + "ground f sinks 0 0 grips 89 0, 90 10;rover wheels 4 weight 100 clear 300 tip 150 drag 0";
  private static final int[] AWAY = {1, 0, -1, 0, 0, -1, 0, 1};
  private static final int FAR = 1 << 28;

  private int wide;
  private int high;
  private int[] tolls;
  private int[] left;

  public static void main(String[] args) {
    int rounds = args.length > 0 ? Integer.parseInt(args[0]) : 6000;
    for (int seed = 0; seed < rounds; seed++) new RoughTest().round(seed);
    Due.end("RoughTest");
  }

  private void round(int seed) {
    Random r = new Random(seed);
    SoftWheels x = Due.withBook(BOOK);
    wide = 1 + r.nextInt(7);
    high = 2 + r.nextInt(6);
    x.map(wide, high);
    lay(x, r);
    int goal = r.nextInt(wide * high);
    findLeft(goal);
    for (int cell = 0; cell < left.length; cell++) {
      boolean there = left[cell] < FAR;
      Due.same(seed + ": worst(" + cell + ", " + goal + ")", x.worst(cell, goal), there ? left[cell] : SoftWheels.NONE);
      Due.same(seed + ": trouble()", x.trouble(), there ? 0 : 6);
    }
    goOn(x, seed, r.nextInt(left.length), goal);
  }

  private void lay(SoftWheels x, Random r) {
    int kind = r.nextInt(3);
    int grounds = 1 + r.nextInt(6);
    int heights = 1 + r.nextInt(200);
    int[] ground = new int[wide * high];
    for (int cell = 0; cell < ground.length; cell++) {
      if (kind != 0) ground[cell] = r.nextInt(grounds);
      x.ground(cell, ground[cell]);
      if (kind != 1) x.height(cell, r.nextInt(heights));
    }
    tolls = new int[4 * ground.length];
    for (int i = 0; i < tolls.length; i++) {
      int next = behind(i / 4, i % 4);
      tolls[i] = next < 0 ? -2 : x.step(i / 4, i % 4, ground[next], 3);
    }
  }

  private int behind(int cell, int way) {
    int px = cell % wide + AWAY[2 * way];
    int py = cell / wide + AWAY[2 * way + 1];
    return px < 0 || px >= wide || py < 0 || py >= high ? -1 : py * wide + px;
  }

  private void findLeft(int goal) {
    left = new int[wide * high];
    Arrays.fill(left, FAR);
    left[goal] = 0;
    for (boolean less = true; less; ) {
      less = false;
      for (int i = 0; i < tolls.length; i++) {
        if (tolls[i] > 0 && left[behind(i / 4, i % 4)] + tolls[i] < left[i / 4]) {
          left[i / 4] = left[behind(i / 4, i % 4)] + tolls[i];
          less = true;
        }
      }
    }
  }

  private int leastWay(int cell) {
    for (int way = 0; way < 4; way++) {
      if (tolls[4 * cell + way] > 0 && left[behind(cell, way)] + tolls[4 * cell + way] == left[cell]) return way;
    }
    return -1;
  }

  private void goOn(SoftWheels x, int seed, int from, int goal) {
    boolean there = left[from] < FAR;
    boolean byMean = seed % 2 == 0;
    String told = seed + ": from " + from + " to " + goal + " ";
    Due.same(told + "mean over", x.mean(from, goal, false), there ? left[from] : Long.MIN_VALUE);
    Due.same(told + "mean under", x.mean(from, goal, true), there ? 1 : Long.MIN_VALUE);
    Due.same(told + "run", x.run(from, goal, byMean, 0), there ? left[from] : SoftWheels.NONE);
    Due.same(told + "regret", x.regret(from, goal), there ? 0 : SoftWheels.NONE);
    Due.same(told + "way", x.way(from, goal, byMean), from == goal ? 4 : there ? leastWay(from) : SoftWheels.NONE);
    int cell = from;
    for (int i = 0; there; i++) {
      Due.same(told + "led(" + i + ")", x.led(i), cell);
      if (cell == goal) break;
      cell = behind(cell, leastWay(cell));
    }
  }
}
