/** Promises 32 to 37: dug wheels, the cheapest way out, tries made, counts and trouble. */
public final class DigTest {
  public static void main(String[] args) {
    withoutBook();
    digging();
    making();
    cheapest();
    fewest();
    leastNumbers();
    noWayOut();
    longWay();
    sixWheels();
    counts();
    troubles();
    Due.end("DigTest");
  }

  private static void tries(SoftWheels x, int cost, int... due) {
    Due.same("out()", x.out(), cost);
    Due.same("trouble() of out()", x.trouble(), 0);
    for (int i = 0; i < due.length; i++) Due.same("tryAt(" + i + ")", x.tryAt(i), due[i]);
    Due.same("tryAt behind the end", x.tryAt(due.length), -2);
    Due.same("trouble() of tryAt", x.trouble(), 0);
    Due.same("tryAt(max)", x.tryAt(Integer.MAX_VALUE), -2);
  }

  private static void withoutBook() {
    SoftWheels x = new SoftWheels();
    Due.refused(x, "dig(0, 0)", x.dig(0, 0), 1);
    Due.refused(x, "dig(0, 9)", x.dig(0, 9), 1);
    Due.refused(x, "out()", x.out(), 1);
    Due.refused(x, "tryAt(0)", x.tryAt(0), 1);
    Due.refused(x, "make(0, 0)", x.make(0, 0), 1);
  }

  private static void digging() {
    SoftWheels x = Due.withBook("try a each 0 one -1 cost 3;rover wheels 2 weight 1 clear 1 tip 0 drag 0");
    Due.refused(x, "dig(2, 0)", x.dig(2, 0), 1);
    Due.refused(x, "dig(-1, 9)", x.dig(-1, 9), 1);
    Due.refused(x, "dig(0, 5)", x.dig(0, 5), 2);
    Due.refused(x, "dig(0, -1)", x.dig(0, -1), 2);
    Due.same("dig(1, 4)", x.dig(1, 4), true);
    Due.same("trouble()", x.trouble(), 0);
    Due.same("count(12)", x.count(12), 4);
    Due.same("dig(0, 1)", x.dig(0, 1), true);
    Due.same("count(12)", x.count(12), 4);
    tries(x, 15, 0, 1, 1, 1, 1);
    Due.refused(x, "tryAt(-1)", x.tryAt(-1), 1);
    x.dig(1, 0);
    tries(x, 3, 0);
    x.dig(0, 0);
    tries(x, 0);
    Due.same("a new book", Due.book(x, "try a each 0 one -1 cost 3"), 0);
    x.dig(3, 4);
    Due.same("a new book again", Due.book(x, "try a each 0 one -1 cost 3"), 0);
    Due.same("count(12)", x.count(12), 0);
    tries(x, 0);
  }

  private static void making() {
    SoftWheels x = Due.withBook("try a each 2 one -3 cost 1;try b each -4 one 4 cost 1;rover wheels 3 weight 1 clear 1 tip 0 drag 0");
    Due.refused(x, "make(2, 0)", x.make(2, 0), 1);
    Due.refused(x, "make(-1, 0)", x.make(-1, 0), 1);
    Due.refused(x, "make(0, 3)", x.make(0, 3), 1);
    Due.refused(x, "make(0, -1)", x.make(0, -1), 1);
    x.dig(0, 1);
    x.dig(1, 3);
    Due.same("make(0, 0): 0 5 2 but 4 at most", x.make(0, 0), 4);
    Due.same("trouble()", x.trouble(), 0);
    Due.same("make(1, 2): 0 0 4", x.make(1, 2), 4);
    Due.same("make(0, 2): 2 2 1", x.make(0, 2), 2);
    Due.same("make(0, 1): 4 0 3", x.make(0, 1), 4);
    Due.same("count(12)", x.count(12), 4);
    Due.same("dig(0, 0)", x.dig(0, 0), true);
    Due.same("count(12)", x.count(12), 3);
  }

  private static void cheapest() {
    // Together for 7, or each by itself for 3.
    SoftWheels x = Due.withBook("try all each -1 one -1 cost 7;try one each 0 one -1 cost 3");
    x.dig(1, 1);
    x.dig(3, 1);
    tries(x, 6, 11, 13);
    x.dig(0, 1);
    tries(x, 7, 0);
    x.dig(0, 2);
    tries(x, 10, 0, 10);
    SoftWheels y = Due.withBook("try in each 4 one 4 cost 1;try lift each -4 one 0 cost 50;try out each -4 one -4 cost 99");
    y.dig(2, 1);
    tries(y, 50, 10);
    for (int w = 0; w < 4; w++) y.dig(w, 1);
    tries(y, 99, 20);
    SoftWheels z = Due.withBook("try a each 1 one -4 cost 1;try b each -1 one 1 cost 9;rover wheels 2 weight 1 clear 1 tip 0 drag 0");
    z.dig(0, 4);
    // 0 1 by a; then b at the other digs it in by 1 again: 1 0, and so on: no end.
    Due.refused(z, "out()", z.out(), 6);
  }

  private static void fewest() {
    // Two for 3 each cost as much as three for 2 each.
    SoftWheels x = Due.withBook("try slow each 0 one -2 cost 2;try fast each 0 one -3 cost 3");
    x.dig(0, 4);
    tries(x, 4, 0, 0);
    x.dig(0, 3);
    tries(x, 3, 10);
    SoftWheels y = Due.withBook("try slow each 0 one -1 cost 1;try fast each 0 one -4 cost 4");
    y.dig(2, 4);
    tries(y, 4, 12);
    y.dig(2, 3);
    tries(y, 3, 2, 2, 2);
  }

  private static void leastNumbers() {
    SoftWheels x = Due.withBook("try b each 0 one -1 cost 2;try a each 0 one -1 cost 2");
    x.dig(3, 1);
    x.dig(1, 2);
    tries(x, 6, 1, 1, 3);
    // At wheel 0 first although it is not dug in: each of the others comes out.
    SoftWheels y = Due.withBook("try a each -1 one 0 cost 2;rover wheels 3 weight 1 clear 1 tip 0 drag 0");
    y.dig(2, 2);
    tries(y, 4, 0, 0);
    y.dig(0, 1);
    tries(y, 4, 0, 1);
    y.dig(0, 2);
    tries(y, 4, 1, 1);
  }

  private static void noWayOut() {
    SoftWheels x = Due.withBook("try a each 0 one 1 cost 1;try b each 1 one -4 cost 1");
    tries(x, 0);
    x.dig(0, 1);
    Due.refused(x, "out()", x.out(), 6);
    Due.same("tryAt(0)", x.tryAt(0), -2);
    Due.same("trouble()", x.trouble(), 0);
    Due.refused(x, "tryAt(-1)", x.tryAt(-1), 1);
    SoftWheels y = Due.withBook("ground a sinks 0 0 grips 0 0");
    tries(y, 0);
    y.dig(0, 1);
    Due.refused(y, "out() without tries", y.out(), 6);
    Due.refused(y, "make(0, 0) without tries", y.make(0, 0), 1);
  }

  private static void longWay() {
    SoftWheels x = Due.withBook("try a each 0 one -1 cost 99;rover wheels 6 weight 1 clear 1 tip 0 drag 0");
    int[] due = new int[24];
    for (int w = 0; w < 6; w++) {
      x.dig(w, 4);
      for (int i = 0; i < 4; i++) due[4 * w + i] = w;
    }
    tries(x, 24 * 99, due);
  }

  private static void sixWheels() {
    // One wheel is left dug in by each, and comes out alone.
    SoftWheels x = Due.withBook("try rock each -1 one 1 cost 3;try lift each 0 one -2 cost 5;rover wheels 6 weight 1 clear 1 tip 0 drag 0");
    for (int w = 0; w < 6; w++) x.dig(w, 1);
    tries(x, 8, 0, 10);
    Due.same("make(0, 5)", x.make(0, 5), 2);
    tries(x, 5, 15);
    Due.same("make(1, 5)", x.make(1, 5), 0);
    tries(x, 0);
  }

  private static void counts() {
    SoftWheels x = Due.withBook("ground a sinks 0 0 grips 0 9;ground b sinks 0 0 grips 0 9;try t each 0 one 0 cost 1;"
        + "rover wheels 5 weight 6 clear 7 tip 8 drag 9");
    x.dead(4);
    x.map(4, 3);
    x.doubt(0);
    x.doubt(5);
    x.weigh(1, 1, 1);
    x.told(0, 0);
    Due.plan(x, "up");
    x.dig(4, 3);
    x.feed(0, 0, 0, 0, 0);
    int[] due = {2, 1, 5, 6, 7, 8, 9, 4, 12, 2, 1, 1, 3, 20};
    for (int i = 0; i < due.length; i++) Due.same("count(" + i + ")", x.count(i), due[i]);
    Due.same("count(14)", x.count(14), -1);
    Due.same("count(-1)", x.count(-1), -1);
    Due.same("count(min)", x.count(Integer.MIN_VALUE), -1);
  }

  /** Calls of which no number is told leave trouble as it was. */
  private static void troubles() {
    SoftWheels x = Due.withBook("ground a sinks 0 0 grips 0 9");
    x.map(2, 2);
    Due.refused(x, "sink(9, 0)", x.sink(9, 0), 1);
    x.feed(0, 0, 0, 0, 0);
    x.of(0, 0);
    x.of(9, 9);
    x.truths();
    x.truth(0, 0);
    x.first(0);
    x.count(0);
    x.count(99);
    x.fault();
    x.where();
    x.run(0, 1, false, 0);
    Due.same("trouble() of run", x.trouble(), 0);
    Due.refused(x, "dead(9)", x.dead(9), 2);
    x.led(0);
    Due.same("trouble() past led", x.trouble(), 2);
    Due.same("trouble() past itself", x.trouble(), 2);
    Due.same("truth of none", x.truth(5, 5), -1);
    Due.same("trouble() past truth", x.trouble(), 2);
  }
}
