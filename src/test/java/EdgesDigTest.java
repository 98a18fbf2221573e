/** The edges of promises 32 to 37: a test for each sentence that names one. */
public final class EdgesDigTest {
  private static final int LEAST = Integer.MIN_VALUE;
  private static final int MOST = Integer.MAX_VALUE;
  private static final String TWO = ";rover wheels 2 weight 1 clear 1 tip 0 drag 0";
  private static final String SIX = ";rover wheels 6 weight 1 clear 1 tip 0 drag 0";

  public static void main(String[] args) {
    digging();
    digRefused();
    tryMade();
    makeRefused();
    nothingToDo();
    leastCost();
    asCheapTheFewest();
    leastNumberFirst();
    noWay();
    tryAtEdges();
    longest();
    counts();
    troubleOfEach();
    troubleStays();
    Due.end("EdgesDigTest");
  }

  private static void tries(SoftWheels x, int cost, int... due) {
    Due.same("out()", x.out(), cost);
    Due.same("trouble() of out()", x.trouble(), 0);
    for (int i = 0; i < due.length; i++) Due.same("tryAt(" + i + ")", x.tryAt(i), due[i]);
    Due.same("tryAt(" + due.length + ")", x.tryAt(due.length), -2);
    Due.same("trouble() of tryAt()", x.trouble(), 0);
  }

  private static void dug(SoftWheels x, int... depths) {
    for (int w = 0; w < depths.length; w++) Due.same("dig(" + w + ", " + depths[w] + ")", x.dig(w, depths[w]), true);
  }

  private static void digging() {
    Due.edge("promise 32", "DUG of a wheel: true");
    for (int wheels = 2; wheels <= 6; wheels++) {
      SoftWheels x = Due.withBook("try a each 0 one -1 cost 1;rover wheels " + wheels + " weight 1 clear 1 tip 0 drag 0");
      for (int w = 0; w < wheels; w++) {
        for (int v = 4; v >= 0; v--) {
          Due.same("dig(" + w + ", " + v + ")", x.dig(w, v), true);
          Due.same("trouble()", x.trouble(), 0);
          Due.same("count(12)", x.count(12), v);
          Due.same("out()", x.out(), v);
        }
      }
    }
    Due.edge("terms IV", "(0 .. 4; 0 at first)");
    SoftWheels x = Due.withBook("try a each 0 one -1 cost 1");
    Due.same("count(12)", x.count(12), 0);
    tries(x, 0);
    x.dig(3, 4);
    Due.book(x, "try a each 0 one -1 cost 1");
    Due.same("count(12) of a new book", x.count(12), 0);
    tries(x, 0);
  }

  private static void digRefused() {
    Due.edge("promise 32", "false: 1 (no BOOK, too)");
    SoftWheels none = new SoftWheels();
    Due.refused(none, "dig(0, 0) without book", none.dig(0, 0), 1);
    Due.refused(none, "dig(0, 5) without book", none.dig(0, 5), 1);
    SoftWheels x = Due.withBook("try a each 0 one -1 cost 1" + TWO);
    x.dig(1, 3);
    for (int w : new int[] {-1, 2, 5, 6, LEAST, MOST}) {
      Due.refused(x, "dig(" + w + ", 0)", x.dig(w, 0), 1);
      Due.refused(x, "dig(" + w + ", 5): 1 stands first", x.dig(w, 5), 1);
    }
    Due.edge("promise 32", "2");
    for (int v : new int[] {-1, 5, LEAST, MOST}) {
      Due.refused(x, "dig(1, " + v + ")", x.dig(1, v), 2);
      Due.same("count(12) stays", x.count(12), 3);
    }
    tries(x, 3, 1, 1, 1);
  }

  private static void tryMade() {
    Due.edge("terms IV", "A TRY at a wheel: its DUG becomes more by one, that of each other wheel by each");
    SoftWheels x = Due.withBook("try a each 1 one 2 cost 1;try b each -1 one -2 cost 1;try c each 0 one -1 cost 1;"
        + "rover wheels 3 weight 1 clear 1 tip 0 drag 0");
    Due.same("make(0, 1)", x.make(0, 1), 2);
    Due.same("trouble()", x.trouble(), 0);
    // 1 2 1: one by one comes out by c.
    Due.same("out()", x.out(), 1);
    Due.same("tryAt(0)", x.tryAt(0), 11);
    dug(x, 1, 2, 0);
    Due.same("make(2, 1)", x.make(2, 1), 1);
    Due.same("make(2, 0)", x.make(2, 0), 1);
    Due.same("make(2, 1)", x.make(2, 1), 0);
    Due.edge("terms IV", "(0 at least, 4 at most)");
    dug(x, 4, 3, 0);
    Due.same("make(0, 1): 5 5 1 but 4 at most", x.make(0, 1), 4);
    dug(x, 0, 0);
    Due.same("count(12): the third", x.count(12), 1);
    Due.same("make(1, 0): below 0 it is 0", x.make(1, 0), 0);
    Due.same("make(0, 2): 1 1 2", x.make(0, 2), 2);
    SoftWheels y = Due.withBook("try a each 4 one -4 cost 1;try b each -4 one 4 cost 1" + TWO);
    dug(y, 4, 4);
    Due.same("make(0, 0): 0 4", y.make(0, 0), 4);
    Due.same("make(1, 1): 0 4", y.make(1, 1), 4);
    Due.same("dig(1, 0)", y.dig(1, 0), true);
    Due.same("count(12): the first was not below 0", y.count(12), 0);
    Due.same("make(1, 0): 4 0", y.make(1, 0), 4);
    Due.edge("promise 35", "the greatest DUG then");
    SoftWheels z = Due.withBook("try a each 0 one 1 cost 1" + SIX);
    for (int w = 0; w < 6; w++) {
      for (int v = 1; v <= 4; v++) {
        int due = w == 0 ? v : 4;
        Due.same("make(0, " + w + ")", z.make(0, w), due);
        Due.same("count(12)", z.count(12), due);
      }
      Due.same("make(0, " + w + ") once more", z.make(0, w), 4);
    }
  }

  private static void makeRefused() {
    Due.edge("promise 35", "NONE: 1");
    SoftWheels none = new SoftWheels();
    Due.refused(none, "make(0, 0) without book", none.make(0, 0), 1);
    SoftWheels bare = Due.withBook("ground a sinks 0 0 grips 0 1");
    Due.refused(bare, "make(0, 0) without tries", bare.make(0, 0), 1);
    SoftWheels x = Due.withBook("try a each 1 one 1 cost 1;try b each 1 one 1 cost 1" + TWO);
    for (int t : new int[] {-1, 2, 5, 6, LEAST, MOST}) Due.refused(x, "make(" + t + ", 0)", x.make(t, 0), 1);
    for (int w : new int[] {-1, 2, 5, 6, LEAST, MOST}) Due.refused(x, "make(0, " + w + ")", x.make(0, w), 1);
    Due.same("count(12) stays", x.count(12), 0);
    Due.same("the last of both", x.make(1, 1), 1);
  }

  private static void nothingToDo() {
    Due.edge("promise 33", "OUT: its cost (0 if all DUG are 0)");
    tries(Due.withBook("try a each -1 one -1 cost 1"), 0);
    tries(Due.withBook("try a each 1 one 1 cost 1"), 0);
    tries(Due.withBook("ground a sinks 0 0 grips 0 1"), 0);
    Due.edge("promise 33", "NONE: 1 (no BOOK)");
    SoftWheels none = new SoftWheels();
    Due.refused(none, "out() without book", none.out(), 1);
    Due.book(none, "nonsense");
    Due.refused(none, "out() behind a fault", none.out(), 1);
    Due.edge("promise 33", "out() makes no TRY");
    SoftWheels x = Due.withBook("try a each 0 one -1 cost 1");
    x.dig(2, 2);
    tries(x, 2, 2, 2);
    tries(x, 2, 2, 2);
    Due.same("count(12)", x.count(12), 2);
  }

  private static void leastCost() {
    Due.edge("terms IV", "OUT: TRIES at wheels, of least cost together, that make all DUG 0");
    // All at once for 7, or one by one for 3 each.
    SoftWheels x = Due.withBook("try all each -4 one -4 cost 7;try one each 0 one -4 cost 3");
    dug(x, 4, 4, 0, 0);
    tries(x, 6, 10, 11);
    dug(x, 4, 4, 1, 0);
    tries(x, 7, 0);
    SoftWheels y = Due.withBook("try a each 0 one -1 cost 99;try b each 0 one -2 cost 1");
    dug(y, 1, 0, 0, 4);
    tries(y, 3, 10, 13, 13);
    // Dearer by one: deeper first, then all at once.
    SoftWheels z = Due.withBook("try in each 1 one 1 cost 1;try out each -4 one -3 cost 1;try lift each 0 one -1 cost 9" + TWO);
    dug(z, 4, 0);
    tries(z, 1, 11);
    dug(z, 4, 4);
    tries(z, 2, 10, 10);
    dug(z, 3, 4);
    tries(z, 1, 10);
    // Deeper first: both out for 5 each, or one in by 4, which lifts the other, and out.
    SoftWheels u = Due.withBook("try a each -3 one 4 cost 3;try b each 0 one -4 cost 5" + TWO);
    dug(u, 1, 1);
    tries(u, 8, 0, 10);
    SoftWheels v = Due.withBook("try a each 3 one -4 cost 1;try b each -4 one 0 cost 6;rover wheels 3 weight 1 clear 1 tip 0 drag 0");
    dug(v, 3, 2, 1);
    tries(v, 7, 0, 10);
    // 2 4, 1 4, 1 1, 3 0, 0 0.
    SoftWheels t = Due.withBook("try a each -3 one 0 cost 7;try b each -1 one 2 cost 2" + TWO);
    dug(t, 2, 4);
    tries(t, 18, 11, 0, 10, 1);
  }

  private static void asCheapTheFewest() {
    Due.edge("terms IV", "of as cheap ones the fewest");
    SoftWheels x = Due.withBook("try a each 0 one -1 cost 1;try b each 0 one -3 cost 3");
    dug(x, 0, 3);
    tries(x, 3, 11);
    dug(x, 0, 4);
    tries(x, 4, 1, 11);
    SoftWheels y = Due.withBook("try a each 0 one -1 cost 1;try b each 0 one -2 cost 2;try c each 0 one -4 cost 4" + TWO);
    dug(y, 4, 3);
    tries(y, 7, 1, 11, 20);
    dug(y, 2, 1);
    tries(y, 3, 1, 10);
  }

  private static void leastNumberFirst() {
    Due.edge("terms IV", "of these the one whose first has the least number (10 times the TRY and the wheel), then the second, and so on");
    SoftWheels x = Due.withBook("try a each 0 one -1 cost 2;try b each 0 one -1 cost 2" + SIX);
    dug(x, 0, 0, 1, 0, 0, 2);
    tries(x, 6, 2, 5, 5);
    dug(x, 1);
    tries(x, 8, 0, 2, 5, 5);
    // The try counts more than the wheel.
    SoftWheels y = Due.withBook("try a each 0 one -2 cost 2;try b each 0 one -1 cost 1" + TWO);
    dug(y, 1, 2);
    tries(y, 3, 1, 10);
    dug(y, 2, 1);
    tries(y, 3, 0, 11);
    // At a wheel that is not dug in.
    SoftWheels z = Due.withBook("try a each -1 one 0 cost 1;rover wheels 3 weight 1 clear 1 tip 0 drag 0");
    dug(z, 0, 1, 1);
    tries(z, 1, 0);
    dug(z, 1, 1, 1);
    tries(z, 2, 0, 1);
    dug(z, 1, 0, 1);
    tries(z, 1, 1);
    // As good at each wheel: the first.
    SoftWheels u = Due.withBook("try a each -1 one -1 cost 1" + SIX);
    dug(u, 4, 4, 4, 4, 4, 4);
    tries(u, 4, 0, 0, 0, 0);
  }

  private static void noWay() {
    Due.edge("promise 33", "NONE: 6");
    SoftWheels x = Due.withBook("ground a sinks 0 0 grips 0 1");
    x.dig(3, 1);
    Due.refused(x, "out() without tries", x.out(), 6);
    SoftWheels y = Due.withBook("try a each 0 one 0 cost 1;try b each 1 one -4 cost 1;try c each 4 one 4 cost 1");
    dug(y, 0, 0, 0, 1);
    Due.refused(y, "out() by none of them", y.out(), 6);
    Due.edge("promise 34", "-2 ... if there is no way");
    for (int i : new int[] {0, 1, 209, 210, 1000, MOST}) {
      Due.same("tryAt(" + i + ")", y.tryAt(i), -2);
      Due.same("trouble()", y.trouble(), 0);
    }
    Due.edge("promise 33", "a way again");
    y.dig(3, 0);
    tries(y, 0);
  }

  private static void tryAtEdges() {
    Due.edge("promise 34", "NONE: 1 (no BOOK, i below 0)");
    SoftWheels none = new SoftWheels();
    for (int i : new int[] {0, 1, -1, LEAST, MOST}) Due.refused(none, "tryAt(" + i + ") without book", none.tryAt(i), 1);
    SoftWheels x = Due.withBook("try a each 0 one -1 cost 1");
    x.dig(1, 2);
    for (int i : new int[] {-1, -2, LEAST}) Due.refused(x, "tryAt(" + i + ")", x.tryAt(i), 1);
    Due.edge("promise 34", "The i-th of OUT, 10 times the TRY and the wheel; -2 behind its end");
    Due.same("tryAt(0)", x.tryAt(0), 1);
    Due.same("tryAt(1)", x.tryAt(1), 1);
    for (int i : new int[] {2, 3, 209, 210, 211, MOST}) {
      Due.same("tryAt(" + i + ")", x.tryAt(i), -2);
      Due.same("trouble()", x.trouble(), 0);
    }
    Due.edge("promise 34", "of OUT as it is now");
    x.make(0, 1);
    Due.same("tryAt(0)", x.tryAt(0), 1);
    Due.same("tryAt(1)", x.tryAt(1), -2);
    x.dig(0, 1);
    Due.same("tryAt(0)", x.tryAt(0), 0);
    Due.same("tryAt(1)", x.tryAt(1), 1);
    Due.book(x, "try a each 0 one -4 cost 1;try b each -4 one 0 cost 1" + TWO);
    Due.same("tryAt(0) of a new book", x.tryAt(0), -2);
    dug(x, 0, 1);
    Due.same("tryAt(0)", x.tryAt(0), 1);
    tries(x, 1, 1);
    dug(x, 4, 0);
    tries(x, 1, 0);
    dug(x, 4, 4);
    tries(x, 2, 0, 1);
    Due.book(x, "try a each 0 one -4 cost 7;try b each -4 one 0 cost 3" + TWO);
    dug(x, 4, 4);
    tries(x, 6, 10, 11);
    Due.book(x, "try a each 0 one -4 cost 2;try b each -4 one 0 cost 3" + SIX);
    dug(x, 4, 0, 4, 0, 0, 1);
    tries(x, 3, 11);
    dug(x, 4, 1, 4, 1, 1, 1);
    tries(x, 5, 0, 10);
    SoftWheels y = Due.withBook("try a each 0 one 0 cost 1;try b each 0 one 0 cost 1;try c each 0 one 0 cost 1;try d each 0 one 0 cost 1;"
        + "try e each 0 one 0 cost 1;try f each 0 one -1 cost 1" + SIX);
    y.dig(5, 1);
    Due.edge("promise 34", "the last TRY at the last wheel");
    tries(y, 1, 55);
  }

  private static void longest() {
    Due.edge("terms IV", "the dearest and the most TRIES that are told one by one");
    SoftWheels x = Due.withBook("try a each 0 one -1 cost 99" + SIX);
    int[] due = new int[24];
    for (int i = 0; i < 24; i++) due[i] = i / 4;
    dug(x, 4, 4, 4, 4, 4, 4);
    tries(x, 24 * 99, due);
  }

  private static void counts() {
    Due.edge("promise 36", "0 GROUNDS, 1 TRIES, 2 wheels, 3 weight, 4 clear, 5 tip, 6 drag, 7 DEAD, 8 CELLS, 9 DOUBTS, 10 OPEN ones, 11 PLANS, "
        + "12 the greatest DUG, 13 bytes of THE TAPE");
    SoftWheels x = Due.withBook("ground a sinks 0 0 grips 0 1;ground b sinks 0 0 grips 0 1;ground c sinks 0 0 grips 0 1;try a each 0 one 0 cost 1;"
        + "try b each 0 one 0 cost 1;rover wheels 6 weight 14 clear 15 tip 16 drag 17");
    x.dead(5);
    x.map(6, 3);
    for (int c = 0; c < 5; c++) x.doubt(c);
    x.told(1, 0);
    for (int i = 0; i < 7; i++) Due.plan(x, "up");
    x.dig(5, 4);
    x.feed(0, 0, 0, 0, 0);
    int[] due = {3, 2, 6, 14, 15, 16, 17, 5, 18, 5, 4, 7, 4, 20};
    for (int i = 0; i < due.length; i++) Due.same("count(" + i + ")", x.count(i), due[i]);
    Due.edge("promise 36", "NONE for others");
    for (int i : new int[] {-1, 14, 15, LEAST, MOST}) Due.same("count(" + i + ")", x.count(i), -1);
    for (int i : new int[] {-1, 14, LEAST, MOST}) Due.same("count(" + i + ") of a new one", new SoftWheels().count(i), -1);
    Due.edge("promise 36", "0 for what there isn't");
    for (int i = 0; i < 14; i++) Due.same("count(" + i + ") of a new one", new SoftWheels().count(i), 0);
    SoftWheels y = Due.withBook("try a each 0 one 0 cost 1");
    int[] bare = {0, 1, 4, 100, 100, 100, 0, 0, 0, 0, 0, 0, 0, 0};
    for (int i = 0; i < 14; i++) Due.same("count(" + i + ") of a bare book", y.count(i), bare[i]);
  }

  private static void troubleOfEach() {
    SoftWheels x = Due.withBook("ground a sinks 0 0 grips 0 1;ground b sinks 0 200 grips 0 1;try a each 0 one 1 cost 1");
    Due.edge("promise 37", "0 it wasn't");
    Due.same("trouble() of a new one", new SoftWheels().trouble(), 0);
    Due.same("trouble() of a good book", x.trouble(), 0);
    Due.edge("promise 37", "1 there is none such");
    Due.refused(x, "sink(2, 0)", x.sink(2, 0), 1);
    Due.edge("promise 37", "2 a number");
    Due.refused(x, "sink(0, -1)", x.sink(0, -1), 2);
    Due.edge("promise 37", "3 no room");
    x.map(3, 2);
    for (int c = 0; c < 5; c++) x.doubt(c);
    Due.refused(x, "doubt(5)", x.doubt(5), 3);
    Due.edge("promise 37", "4 a FAULT");
    Due.refused(x, "plan(0)", x.plan(0), 4);
    Due.edge("promise 37", "5 not so");
    Due.refused(x, "forget(0)", x.forget(0), 5);
    Due.edge("promise 37", "6 there is no way");
    x.dig(0, 1);
    Due.refused(x, "out()", x.out(), 6);
  }

  /** Of each call that may be refused: behind a refused one it is 0 when this one isn't. */
  private static void troubleStays() {
    SoftWheels x = Due.withBook("ground a sinks 0 0 grips 0 1;ground b sinks 0 0 grips 0 1;try a each 0 one -1 cost 1");
    x.map(3, 1);
    x.doubt(1);
    Due.plan(x, "right");
    Due.edge("promise 37", "TROUBLE of the latest call that may be refused: 0 it wasn't");
    for (int call = 0; call < 26; call++) {
      Due.refused(x, "sink(9, 0)", x.sink(9, 0), 1);
      if (call == 21) Due.feed(x, "right");
      if (call == 22) Due.feed(x, "ground a sinks 0 0 grips 0 1");
      answered(x, call);
      Due.same("trouble() behind call " + call, x.trouble(), 0);
    }
    Due.edge("promise 37", "(those of which a number is told here)");
    Due.refused(x, "grip(0, 99)", x.grip(0, 99), 2);
    x.feed(0, 0, 0, 0, 0);
    for (int i = 0; i < 25; i++) x.feed(0, 0, 0, 0, 0);
    Due.same("trouble() past feed()", x.trouble(), 2);
    x.fault();
    x.where();
    Due.same("trouble() past fault(), where()", x.trouble(), 2);
    x.of(0, 0);
    x.of(-1, 0);
    Due.same("trouble() past of()", x.trouble(), 2);
    x.truths();
    x.truth(0, 0);
    x.truth(-1, 0);
    Due.same("trouble() past truths(), truth()", x.trouble(), 2);
    x.first(0);
    x.first(-1);
    x.count(0);
    x.count(-1);
    Due.same("trouble() past first(), count()", x.trouble(), 2);
    Due.same("trouble() past itself", x.trouble(), 2);
    x.map(1, 1);
    x.run(0, 0, true, 0);
    Due.refused(x, "grip(0, 99)", x.grip(0, 99), 2);
    x.led(0);
    try {
      x.led(-1);
      Due.that("led(-1) throws", false);
    } catch (java.util.NoSuchElementException e) {
      Due.same("trouble() past led()", x.trouble(), 2);
    }
  }

  private static void answered(SoftWheels x, int call) {
    switch (call) {
      case 0: x.sink(0, 0); break;
      case 1: x.grip(0, 0); break;
      case 2: x.dead(0); break;
      case 3: x.height(0, 0); break;
      case 4: x.ground(0, 0); break;
      case 5: x.doubt(2); break;
      case 6: x.weigh(0, 1, 1); break;
      case 7: x.told(0, 1); break;
      case 8: x.forget(0); break;
      case 9: x.step(0, 0, 0, 0); break;
      case 10: x.worst(0, 2); break;
      case 11: x.mean(0, 2, false); break;
      case 12: x.told(0, 1); x.sink(9, 0); x.way(0, 2, false); break;
      case 13: x.run(0, 2, false, 0); break;
      case 14: x.regret(0, 2); break;
      case 15: x.worth(1, 0, 2, true); break;
      case 16: x.spared(1, 0, 2); break;
      case 17: x.failing(0, 0, 1, 0); break;
      case 18: x.costs(0, 0, 1); break;
      case 19: x.dig(0, 1); break;
      case 20: x.make(0, 0); break;
      case 21: x.plan(5); break;
      case 22: x.book(28); break;
      case 23: x.map(2, 2); break;
      case 24: x.out(); break;
      default: x.tryAt(0);
    }
  }
}
