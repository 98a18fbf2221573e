import java.lang.management.ManagementFactory;
import java.util.NoSuchElementException;
import java.util.Random;

/** The room: what the dearest run of 512 calls makes, and that no call throws whatever is asked. */
public final class RoomTest {
  /** 7.3 million elements are the room of all calls of a run; a tenth of them, as longs. */
  private static final long MOST_BYTES = 7300000L / 10 * 8;
  private static final String BOOK = "ground a sinks 0 0 grips 0 80;ground b sinks 0 50 grips 0 0, 90 90;ground c sinks 0 99 grips 0 0, 90 99;"
      + "try a each 1 one -2 cost 3;try b each -1 one 1 cost 2;try c each 0 one -1 cost 9;rover wheels 6 weight 99 clear 100 tip 30 drag 10";

  private static long made() {
    com.sun.management.ThreadMXBean b = (com.sun.management.ThreadMXBean) ManagementFactory.getThreadMXBean();
    return b.getThreadAllocatedBytes(Thread.currentThread().getId());
  }

  public static void main(String[] args) {
    made();
    dearest();
    manyObjects();
    longestRun();
    anything();
    Due.end("RoomTest");
  }

  private static int widest(SoftWheels x) {
    Due.feed(x, BOOK);
    x.book(BOOK.length());
    x.map(10, 10);
    int[] cells = {22, 27, 44, 72, 77};
    for (int d = 0; d < 5; d++) {
      x.doubt(cells[d]);
      for (int g = 0; g < 3; g++) x.weigh(d, g, 1 + g);
    }
    return (BOOK.length() + 19) / 20 + 2 + 20;
  }

  private static void dearest() {
    long before = made();
    SoftWheels x = new SoftWheels();
    int calls = widest(x);
    for (int i = 0; calls < 505; i++) {
      int to = 99 - i % 50;
      x.worst(0, to);
      x.mean(0, to, true);
      x.regret(0, to);
      x.worth(i % 5, 0, to, false);
      x.dig(i % 6, i % 5);
      x.tryAt(i % 7);
      x.run(0, to, true, i);
      calls += 7;
    }
    Due.that("a dear run stays small: " + (made() - before), made() - before < MOST_BYTES);
    x.worst(0, 99);
    before = made();
    for (int i = 0; i < 100; i++) x.worst(i, i % 2);
    Due.that("a call makes nothing: " + (made() - before), made() - before < 4096);
  }

  private static void manyObjects() {
    long before = made();
    for (int i = 0; i < 512; i++) new SoftWheels();
    Due.that("512 objects stay small: " + (made() - before), made() - before < 7300000L * 4);
  }

  /** A comb in which each doubt is seen at the end of a long blind lane. */
  private static void longestRun() {
    SoftWheels x = new SoftWheels();
    String text = "ground a sinks 0 0 grips 0 80;ground c sinks 0 299 grips 0 0;rover wheels 2 weight 100 clear 100 tip 30 drag 0";
    Due.feed(x, text);
    x.book(text.length());
    x.map(10, 10);
    for (int row = 1; row < 10; row += 2) {
      for (int c = 0; c < 10; c++) {
        if (row == 9 || c != (row % 4 == 1 ? 9 : 0)) x.height(10 * row + c, 999);
      }
    }
    int[] doubts = {90, 81, 0, 1, 2};
    for (int d : doubts) {
      x.doubt(d);
      x.weigh(x.count(9) - 1, 1, 1);
    }
    for (int t = 0; t < x.truths(); t++) {
      int cost = x.run(40, 89, t % 2 == 0, t);
      Due.that("a run or none: " + cost, cost > 0 || x.trouble() == 6);
    }
  }

  private static void anything() {
    Random r = new Random(7);
    int[] odd = {Integer.MIN_VALUE, Integer.MAX_VALUE, -1, 0, 1, 2, 3, 4, 5, 99, 100, 500, 512, 1 << 20};
    for (int round = 0; round < 300; round++) {
      SoftWheels x = new SoftWheels();
      if (round % 3 > 0) widest(x);
      if (round % 3 > 1) Due.plan(x, "right;if 0 is a (right 2) else (down)");
      for (int i = 0; i < 400; i++) {
        int[] a = new int[5];
        for (int k = 0; k < 5; k++) a[k] = r.nextInt(3) == 0 ? odd[r.nextInt(odd.length)] : r.nextInt(6);
        try {
          call(x, r.nextInt(36), a);
        } catch (NoSuchElementException e) {
          Due.that("only led() throws", e.getMessage() != null && e.getMessage().equals("no such cell of a run"));
        }
      }
      Due.that("tape", x.count(13) <= 500);
    }
  }

  private static void call(SoftWheels x, int which, int[] a) {
    switch (which) {
      case 0: x.feed(a[0], a[1], a[2], a[3], a[4]); break;
      case 1: if (a[4] == 0) x.book(a[0]); break;
      case 2: x.plan(a[0]); break;
      case 3: x.fault(); break;
      case 4: x.where(); break;
      case 5: x.sink(a[0], a[1]); break;
      case 6: x.grip(a[0], a[1]); break;
      case 7: x.dead(a[0]); break;
      case 8: if (a[4] == 0) x.map(a[0], a[1]); break;
      case 9: x.height(a[0], a[1]); break;
      case 10: x.ground(a[0], a[1]); break;
      case 11: x.doubt(a[0]); break;
      case 12: x.weigh(a[0], a[1], a[2]); break;
      case 13: x.told(a[0], a[1]); break;
      case 14: x.forget(a[0]); break;
      case 15: x.of(a[0], a[1]); break;
      case 16: x.step(a[0], a[1], a[2], a[3]); break;
      case 17: x.worst(a[0], a[1]); break;
      case 18: x.mean(a[0], a[1], a[2] > 0); break;
      case 19: x.way(a[0], a[1], a[2] > 0); break;
      case 20: x.truths(); break;
      case 21: x.truth(a[0], a[1]); break;
      case 22: x.run(a[0], a[1], a[2] > 0, a[3]); break;
      case 23: x.led(a[0]); break;
      case 24: x.regret(a[0], a[1]); break;
      case 25: x.worth(a[0], a[1], a[2], a[3] > 0); break;
      case 26: x.spared(a[0], a[1], a[2]); break;
      case 27: x.failing(a[0], a[1], a[2], a[3]); break;
      case 28: x.first(a[0]); break;
      case 29: x.costs(a[0], a[1], a[2]); break;
      case 30: x.dig(a[0], a[1]); break;
      case 31: x.out(); break;
      case 32: x.tryAt(a[0]); break;
      case 33: x.make(a[0], a[1]); break;
      case 34: x.count(a[0]); break;
      default: x.trouble();
    }
  }
}
