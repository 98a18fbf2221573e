import java.util.List;
import java.util.NoSuchElementException;
import java.util.function.ToLongFunction;

/** A call that is refused changes nothing but TROUBLE; calls that only tell change nothing at all. */
public final class StaysTest {
  private static final String BOOK = "ground rock sinks 0 0 grips 0 80;ground mud sinks 0 90 grips 0 0, 90 9;ground bog sinks 0 101 grips 0 0;"
      + "ground ice sinks 0 0 grips 0 0;ground wet sinks 0 30 grips 0 80;try lift each 0 one -1 cost 3;try rock each -1 one 1 cost 2";

  private SoftWheels x;
  private String before;

  private StaysTest() {}

  public static void main(String[] args) {
    new StaysTest().refusals();
    new StaysTest().tellers();
    new StaysTest().texts();
    new StaysTest().withoutBook();
    Due.end("StaysTest");
  }

  /** Five doubts, eight plans, a tape with bytes, a run and a failing() told, wheels dead and dug in. */
  private void rich() {
    x = Due.withBook(BOOK);
    x.map(4, 3);
    x.height(5, 20);
    x.ground(9, 4);
    for (int d = 0; d < 5; d++) {
      x.doubt(d < 4 ? d : 11);
      x.weigh(d, 1, 1 + d);
    }
    x.weigh(0, 4, 2);
    x.told(1, 1);
    for (int i = 0; i < 8; i++) Due.plan(x, i % 2 == 0 ? "right" : "if 0 is rock (left) else (down)");
    x.dead(0);
    x.dig(2, 3);
    x.dig(0, 1);
    x.run(0, 10, true, 0);
    x.failing(0, 0, 2, 5);
    Due.feed(x, "up");
    before = all();
  }

  /** All that can be told, but for trouble() and where(). */
  private String all() {
    StringBuilder s = new StringBuilder("fault " + x.fault());
    for (int i = 0; i < 14; i++) s.append(" count").append(i).append('=').append(x.count(i));
    for (int c = 0; c < x.count(8); c++) {
      for (int w = 0; w < 3; w++) s.append(" of").append(c).append('=').append(x.of(c, w));
    }
    s.append(" truths=").append(x.truths());
    for (int t = 0; t < x.truths(); t++) {
      for (int d = 0; d < x.count(9); d++) s.append(' ').append(x.truth(t, d));
    }
    for (int i = 0; i < 3; i++) s.append(" first").append(i).append('=').append(x.first(i));
    s.append(" led");
    for (int i = 0; i < 100; i++) {
      try {
        s.append(' ').append(x.led(i));
      } catch (NoSuchElementException e) {
        break;
      }
    }
    for (int g = 0; g < x.count(0); g++) s.append(" sink=").append(x.sink(g, 25)).append(" grip=").append(x.grip(g, 45));
    s.append(" out=").append(x.out());
    for (int i = 0; i < 12; i++) s.append(' ').append(x.tryAt(i));
    for (int c = 0; c < x.count(8); c++) {
      s.append(" worst").append(c).append('=').append(x.worst(c, 10)).append(" mean=").append(x.mean(c, 10, false)).append('/').append(x.mean(c, 10, true));
      for (int p = 0; p < x.count(11); p++) s.append(' ').append(x.costs(p, c, c + 1));
    }
    return s.toString();
  }

  private void stays(String call) {
    String now = all();
    Due.that(call + " changes nothing: " + now + ", but was " + before, now.equals(before));
  }

  private void refused(int trouble, String call, ToLongFunction<SoftWheels> made) {
    long got = made.applyAsLong(x);
    Due.that(call + " is refused: " + got, got == -1 || got == Long.MIN_VALUE || got == 0);
    Due.same("trouble() of " + call, x.trouble(), trouble);
    stays(call);
  }

  private static long of(boolean b) { return b ? 1 : 0; }

  private void refusals() {
    rich();
    refused(2, "book(-1)", y -> y.book(-1));
    refused(2, "book(21)", y -> y.book(21));
    refused(2, "plan(-1)", y -> y.plan(-1));
    refused(2, "plan(21)", y -> y.plan(21));
    refused(1, "sink(5, 0)", y -> y.sink(5, 0));
    refused(2, "sink(0, 1000)", y -> y.sink(0, 1000));
    refused(1, "grip(5, 0)", y -> y.grip(5, 0));
    refused(2, "grip(0, 91)", y -> y.grip(0, 91));
    refused(2, "dead(4)", y -> of(y.dead(4)));
    refused(2, "map(0, 3)", y -> y.map(0, 3));
    refused(2, "map(3, 11)", y -> y.map(3, 11));
    refused(1, "height(12, 5)", y -> of(y.height(12, 5)));
    refused(2, "height(5, 1000)", y -> of(y.height(5, 1000)));
    refused(1, "ground(12, 0)", y -> of(y.ground(12, 0)));
    refused(1, "ground(5, 5)", y -> of(y.ground(5, 5)));
    refused(5, "ground(0, 3)", y -> of(y.ground(0, 3)));
    refused(1, "doubt(12)", y -> y.doubt(12));
    refused(5, "doubt(0)", y -> y.doubt(0));
    refused(3, "doubt(4)", y -> y.doubt(4));
    refused(1, "weigh(5, 0, 1)", y -> of(y.weigh(5, 0, 1)));
    refused(1, "weigh(0, 5, 1)", y -> of(y.weigh(0, 5, 1)));
    refused(2, "weigh(0, 0, 10)", y -> of(y.weigh(0, 0, 10)));
    refused(5, "weigh(0, 2, 9)", y -> of(y.weigh(0, 2, 9)));
    refused(5, "weigh(1, 1, 0)", y -> of(y.weigh(1, 1, 0)));
    refused(1, "told(5, 0)", y -> of(y.told(5, 0)));
    refused(5, "told(0, 2)", y -> of(y.told(0, 2)));
    refused(5, "told(1, 2)", y -> of(y.told(1, 2)));
    refused(1, "forget(5)", y -> of(y.forget(5)));
    refused(5, "forget(0)", y -> of(y.forget(0)));
    refused(1, "step(12, 0, 0, 0)", y -> y.step(12, 0, 0, 0));
    refused(1, "worst(12, 0)", y -> y.worst(12, 0));
    refused(1, "mean(0, 12)", y -> y.mean(0, 12, true));
    refused(1, "way(12, 0)", y -> y.way(12, 0, true));
    refused(5, "way(0, 10)", y -> y.way(0, 10, true));
    refused(1, "run(12, 0)", y -> y.run(12, 0, true, 0));
    refused(1, "run in no truth", y -> y.run(0, 10, true, y.truths()));
    refused(1, "regret(0, 12)", y -> y.regret(0, 12));
    refused(1, "worth(5, 0, 10)", y -> y.worth(5, 0, 10, true));
    refused(5, "worth(1, 0, 10)", y -> y.worth(1, 0, 10, true));
    refused(1, "spared(5, 0, 10)", y -> y.spared(5, 0, 10));
    refused(5, "spared(1, 0, 10)", y -> y.spared(1, 0, 10));
    refused(1, "failing(8, 0, 1, 0)", y -> y.failing(8, 0, 1, 0));
    refused(2, "failing(0, 0, 1, -1)", y -> y.failing(0, 0, 1, -1));
    refused(1, "costs(8, 0, 1)", y -> y.costs(8, 0, 1));
    refused(6, "costs(0, 0, 5)", y -> y.costs(0, 0, 5));
    refused(1, "dig(4, 0)", y -> of(y.dig(4, 0)));
    refused(2, "dig(2, 5)", y -> of(y.dig(2, 5)));
    refused(1, "tryAt(-1)", y -> y.tryAt(-1));
    refused(1, "make(2, 0)", y -> y.make(2, 0));
    refused(1, "make(0, 4)", y -> y.make(0, 4));
    x.height(10, 999);
    before = all();
    refused(6, "worst(0, 10)", y -> y.worst(0, 10));
    refused(6, "mean(0, 10)", y -> y.mean(0, 10, false));
    refused(6, "way(8, 10)", y -> y.way(8, 10, false));
    refused(6, "run(0, 10)", y -> y.run(0, 10, false, 0));
    refused(6, "regret(0, 10)", y -> y.regret(0, 10));
    refused(6, "worth(0, 0, 10)", y -> y.worth(0, 0, 10, false));
    refused(6, "spared(0, 0, 10)", y -> y.spared(0, 0, 10));
    while (x.feed(0, 0, 0, 0, 0) != -1) before = all();
    Due.same("feed when the tape is full", x.feed(1, 2, 3, 4, 5), -1);
    stays("feed when the tape is full");
  }

  /** Calls that tell something and are not refused. */
  private void tellers() {
    rich();
    List<ToLongFunction<SoftWheels>> calls = List.of(
        y -> y.fault(), y -> y.where(), y -> y.sink(1, 999), y -> y.grip(1, 90), y -> y.of(0, 1), y -> y.step(0, 0, 2, 0), y -> y.worst(3, 8),
        y -> y.mean(3, 8, true), y -> y.way(8, 10, true), y -> y.way(8, 8, false), y -> y.truths(), y -> y.truth(0, 0), y -> y.led(0),
        y -> y.regret(3, 8), y -> y.worth(0, 8, 3, false), y -> y.spared(2, 8, 3), y -> y.first(2), y -> y.costs(0, 0, 1), y -> y.out(),
        y -> y.tryAt(3), y -> y.count(3), y -> y.trouble());
    for (int i = 0; i < calls.size(); i++) {
      x.sink(0, 0);
      calls.get(i).applyAsLong(x);
      Due.same("trouble() of teller " + i, x.trouble(), 0);
      stays("teller " + i);
    }
  }

  /** Texts with a fault, or without room: the tape is empty then, fault() is theirs, and the rest stays. */
  private void texts() {
    rich();
    String[] bad = {"", "ground", "rover wheels 1", "ground a sinks 0 0 grips 0 1;ground a", "up;", "if 9 is rock (up)", "up 0", "if 0 is mud (up;)"};
    for (String text : bad) {
      x.book(0);
      Due.book(x, text);
      Due.same("trouble() of book \"" + text + "\"", x.trouble(), 4);
      staysButText("book \"" + text + "\"");
      Due.plan(x, text);
      Due.same("trouble() of plan \"" + text + "\"", x.trouble(), 4);
      staysButText("plan \"" + text + "\"");
    }
    Due.plan(x, "up 9;if 0 is mud (down)");
    Due.same("trouble() of a ninth plan", x.trouble(), 3);
    staysButText("a ninth plan");
  }

  private void staysButText(String call) {
    Due.same("count(13) behind " + call, x.count(13), 0);
    String was = before.replaceFirst("fault -?[0-9]+", "").replaceFirst("count13=[0-9]+", "");
    String now = all().replaceFirst("fault -?[0-9]+", "").replaceFirst("count13=[0-9]+", "");
    Due.that(call + " changes only the tape and fault(): " + now + ", but was " + was, now.equals(was));
  }

  private void withoutBook() {
    x = new SoftWheels();
    before = all();
    refused(1, "plan(0)", y -> y.plan(0));
    refused(2, "book(1)", y -> y.book(1));
    refused(1, "sink(0, 0)", y -> y.sink(0, 0));
    refused(1, "grip(0, 0)", y -> y.grip(0, 0));
    refused(1, "dead(0)", y -> of(y.dead(0)));
    refused(1, "map(1, 1)", y -> y.map(1, 1));
    refused(1, "height(0, 0)", y -> of(y.height(0, 0)));
    refused(1, "ground(0, 0)", y -> of(y.ground(0, 0)));
    refused(1, "doubt(0)", y -> y.doubt(0));
    refused(1, "weigh(0, 0, 0)", y -> of(y.weigh(0, 0, 0)));
    refused(1, "told(0, 0)", y -> of(y.told(0, 0)));
    refused(1, "forget(0)", y -> of(y.forget(0)));
    refused(1, "step(0, 0, 0, 0)", y -> y.step(0, 0, 0, 0));
    refused(1, "worst(0, 0)", y -> y.worst(0, 0));
    refused(1, "mean(0, 0)", y -> y.mean(0, 0, true));
    refused(1, "way(0, 0)", y -> y.way(0, 0, true));
    refused(1, "run(0, 0, true, 0)", y -> y.run(0, 0, true, 0));
    refused(1, "regret(0, 0)", y -> y.regret(0, 0));
    refused(1, "worth(0, 0, 0)", y -> y.worth(0, 0, 0, true));
    refused(1, "spared(0, 0, 0)", y -> y.spared(0, 0, 0));
    refused(1, "failing(0, 0, 0, 0)", y -> y.failing(0, 0, 0, 0));
    refused(1, "costs(0, 0, 0)", y -> y.costs(0, 0, 0));
    refused(1, "dig(0, 0)", y -> of(y.dig(0, 0)));
    refused(1, "out()", y -> y.out());
    refused(1, "tryAt(0)", y -> y.tryAt(0));
    refused(1, "make(0, 0)", y -> y.make(0, 0));
  }
}
