/** The edges of promises 1, 2, 3, 5, 6 and of the text of a book: a test for each sentence that names one. */
public final class EdgesTextTest {
  private static final String SAND = "ground sand sinks 0 0 grips 0 10";
  private static final String TRY = "try a each 0 one 0 cost 1";
  private static final String ROVER = "rover wheels 2 weight 1 clear 1 tip 0 drag 0";
  private static final String[] KEPT = {"ground", "rover", "try", "if", "is", "else", "right", "left", "up", "down"};

  public static void main(String[] args) {
    newObject();
    tapeTakesTwentyBytes();
    tapeFull();
    firstBytes();
    newBookBeginsAnew();
    oneBookBehindAnother();
    bookRefusedByNumber();
    bookRefusedByFault();
    faultTold();
    placeTold();
    blanks();
    words();
    wholes();
    signs();
    lines();
    loadsAndDepths();
    slipsAndPulls();
    roverBounds();
    roverOnce();
    tryBounds();
    names();
    howMany();
    firstFromTheLeft();
    leastOfOnePlace();
    form();
    Due.end("EdgesTextTest");
  }

  private static String grounds(int n) {
    StringBuilder s = new StringBuilder();
    for (int i = 0; i < n; i++) s.append("ground ").append((char) ('a' + i)).append(" sinks 0 0 grips 0 1;");
    return s.toString();
  }

  private static String tries(int n) {
    StringBuilder s = new StringBuilder();
    for (int i = 0; i < n; i++) s.append("try ").append((char) ('a' + i)).append(" each 0 one 0 cost 1;");
    return s.toString();
  }

  private static void counts(SoftWheels x, int... due) {
    for (int i = 0; i < due.length; i++) Due.same("count(" + i + ")", x.count(i), due[i]);
  }

  private static void newObject() {
    Due.edge("promise 1", "No BOOK, no MAP.");
    SoftWheels x = new SoftWheels();
    counts(x, 0, 0, 0, 0, 0, 0, 0, 0, 0, 0, 0, 0, 0, 0);
    Due.same("trouble()", x.trouble(), 0);
    Due.same("fault()", x.fault(), 0);
    Due.same("where()", x.where(), -1);
    Due.same("truths()", x.truths(), 0);
    Due.refused(x, "dead(0)", x.dead(0), 1);
    Due.refused(x, "map(1, 1)", x.map(1, 1), 1);
    Due.refused(x, "plan(0)", x.plan(0), 1);
    Due.goodBook(1, SAND);
    counts(new SoftWheels(), 0, 0, 0, 0, 0, 0, 0, 0, 0, 0, 0, 0, 0, 0);
  }

  private static void tapeTakesTwentyBytes() {
    Due.edge("promise 2", "Twenty bytes come behind THE TAPE, of each number the highest first");
    SoftWheels x = new SoftWheels();
    // A byte of its own at each of the twenty places: the first that begins no token is told.
    for (int place = 0; place < 20; place++) {
      int[] n = {0x20202020, 0x20202020, 0x20202020, 0x20202020, 0x20202020};
      n[place / 4] |= 0xff << 8 * (3 - place % 4);
      x.feed(n[0], n[1], n[2], n[3], n[4]);
      x.book(20);
      Due.same("fault() of byte " + place, x.fault(), 1);
      Due.same("where() of byte " + place, x.where(), place);
    }
    x.feed(0x20202020, 0x20202020, 0x20202020, 0x20202020, 0x20202020);
    Due.same("the second feed", x.feed(0x203b2020, 0, 0, 0, 0), 40);
    x.book(40);
    Due.same("where() of the second feed's second byte", x.where(), 21);
    Due.edge("promise 2", "how many it has");
    for (int i = 1; i <= 25; i++) Due.same("feed " + i, x.feed(-1, Integer.MIN_VALUE, Integer.MAX_VALUE, 0, 1), 20 * i);
  }

  private static void tapeFull() {
    Due.edge("promise 2", "NONE, and none comes, if there would be more than 500");
    SoftWheels x = new SoftWheels();
    Due.feed(x, " ".repeat(500 - SAND.length()) + SAND);
    Due.same("count(13)", x.count(13), 500);
    Due.same("one more", x.feed(0x3f3f3f3f, 0x3f3f3f3f, 0x3f3f3f3f, 0x3f3f3f3f, 0x3f3f3f3f), -1);
    Due.same("count(13)", x.count(13), 500);
    Due.same("and again", x.feed(0, 0, 0, 0, 0), -1);
    Due.same("book(500): the bytes that were there", x.book(500), 1);
    Due.same("grip(0, 0)", x.grip(0, 0), 10);
    Due.same("room again behind it", x.feed(0, 0, 0, 0, 0), 20);
    Due.edge("terms I", "THE TAPE has 500 bytes");
    x.book(0);
    for (int i = 1; i <= 24; i++) x.feed(0, 0, 0, 0, 0);
    Due.same("up to 500", x.feed(0, 0, 0, 0, 0), 500);
    Due.refused(x, "book(501)", x.book(501), 2);
    Due.refused(x, "book(500)", x.book(500), 4);
  }

  private static void firstBytes() {
    Due.edge("promise 3", "The first n bytes of THE TAPE");
    SoftWheels x = new SoftWheels();
    String text = "ground a sinks 0 0 grips 0 150";
    Due.feed(x, text);
    Due.same("book without the last byte", x.book(29), 1);
    Due.same("grip(0, 0)", x.grip(0, 0), 15);
    Due.feed(x, text + "?");
    Due.same("book without what begins no token", x.book(30), 1);
    Due.same("grip(0, 0)", x.grip(0, 0), 150);
    Due.feed(x, text + "?");
    Due.refused(x, "book with it", x.book(31), 4);
    Due.same("where()", x.where(), 30);
    // What was on the tape ahead of this one is not read.
    Due.feed(x, "ground a sinks 0 0 grips 0 1");
    Due.refused(x, "book(0)", x.book(0), 4);
    x.feed(0x67726f75, 0x6e642061, 0x2073696e, 0x6b732030, 0x20302067);
    Due.refused(x, "book(20)", x.book(20), 4);
    Due.same("where()", x.where(), 19);
    Due.edge("promise 3", "(it is empty then)");
    Due.feed(x, SAND + ";" + TRY);
    Due.same("book of less than the tape has", x.book(SAND.length()), 1);
    Due.same("count(13)", x.count(13), 0);
    Due.same("feed begins at 0", x.feed(0x20202020, 0, 0, 0, 0), 20);
    x.book(20);
    Due.same("where()", x.where(), 4);
    Due.same("count(13) behind a fault", x.count(13), 0);
    Due.refused(x, "book(0) of the empty tape", x.book(0), 4);
    Due.refused(x, "book(1) of the empty tape", x.book(1), 2);
    Due.feed(x, " ");
    x.book(20);
    Due.same("where() of blanks", x.where(), 20);
    Due.refused(x, "book(0) behind them", x.book(0), 4);
    Due.same("where()", x.where(), 0);
    Due.feed(x, SAND);
    Due.refused(x, "book(0) of a tape that has bytes", x.book(0), 4);
    Due.same("where()", x.where(), 0);
    Due.same("count(13)", x.count(13), 0);
  }

  /** A book, a map, a doubt, a plan, dead wheels, a wheel dug in. */
  private static SoftWheels full() {
    SoftWheels x = Due.withBook("ground a sinks 0 7 grips 0 1;ground b sinks 0 8 grips 0 2;try t each 0 one -1 cost 5;"
        + "rover wheels 3 weight 9 clear 8 tip 7 drag 6");
    x.map(2, 2);
    x.height(1, 5);
    x.doubt(3);
    Due.plan(x, "right");
    x.dead(2);
    x.dig(2, 3);
    return x;
  }

  private static final int[] FULL = {2, 1, 3, 9, 8, 7, 6, 2, 4, 1, 1, 1, 3};

  private static void newBookBeginsAnew() {
    SoftWheels x = full();
    counts(x, FULL);
    Due.edge("promise 3", "are the BOOK from now on (no MAP, no PLANS; none DEAD, DUG 0)");
    Due.same("a new book", Due.book(x, TRY), 0);
    counts(x, 0, 1, 4, 100, 100, 100, 0, 0, 0, 0, 0, 0, 0, 0);
    Due.same("of(1, 0)", x.of(1, 0), -1);
    Due.same("truths()", x.truths(), 0);
    Due.refused(x, "sink(0, 0): the old grounds are gone", x.sink(0, 0), 1);
    Due.refused(x, "height(0, 0)", x.height(0, 0), 1);
    Due.refused(x, "doubt(0)", x.doubt(0), 1);
    Due.refused(x, "forget(0)", x.forget(0), 1);
    Due.refused(x, "worst(0, 0)", x.worst(0, 0), 1);
    Due.refused(x, "costs(0, 0, 0)", x.costs(0, 0, 0), 1);
    Due.refused(x, "plan(0)", x.plan(0), 1);
    Due.same("out(): none is dug in", x.out(), 0);
    Due.edge("promise 3", "how many GROUNDS");
    Due.goodBook(0, ROVER);
    Due.goodBook(0, TRY);
    Due.goodBook(1, SAND);
    Due.goodBook(8, grounds(7) + "ground h sinks 0 0 grips 0 1");
  }

  private static void oneBookBehindAnother() {
    Due.edge("promise 3", "are the BOOK from now on: nothing of an older one, nor of one with a FAULT");
    SoftWheels x = new SoftWheels();
    String big = grounds(8) + tries(6) + "rover wheels 6 weight 999 clear 300 tip 300 drag 99";
    for (int round = 0; round < 3; round++) {
      Due.same("eight grounds", Due.book(x, big), 8);
      counts(x, 8, 6, 6, 999, 300, 300, 99);
      Due.same("one ground", Due.book(x, SAND), 1);
      counts(x, 1, 0, 4, 100, 100, 100, 0);
      Due.refused(x, "sink(1, 0)", x.sink(1, 0), 1);
      Due.same("one try", Due.book(x, TRY), 0);
      counts(x, 0, 1, 4, 100, 100, 100, 0);
      if (round > 0) Due.refused(x, "eight grounds and a fault", Due.book(x, big + ";"), 4);
      if (round > 1) Due.refused(x, "eight grounds and a fault", Due.book(x, big + ";"), 4);
      counts(x, 0, 1, 4, 100, 100, 100, 0);
      Due.same("a rover", Due.book(x, ROVER), 0);
      counts(x, 0, 0, 2, 1, 1, 0, 0);
    }
    // Of fewer pairs than the one ahead had.
    Due.same("four pairs", Due.book(x, "ground a sinks 0 0,1 1,2 2,3 3 grips 0 0,1 1,2 2,3 3"), 1);
    Due.same("two pairs", Due.book(x, "ground a sinks 0 9,1 9 grips 0 8,1 8"), 1);
    Due.same("one pair", Due.book(x, "ground a sinks 0 7 grips 0 6"), 1);
    Due.same("sink(0, 999)", x.sink(0, 999), 7);
    Due.same("grip(0, 90)", x.grip(0, 90), 6);
  }

  private static void bookRefusedByNumber() {
    Due.edge("promise 3", "NONE: 2 (THE TAPE stays)");
    SoftWheels x = full();
    Due.feed(x, SAND);
    int has = x.count(13);
    for (int n : new int[] {-1, Integer.MIN_VALUE, has + 1, 501, Integer.MAX_VALUE}) {
      Due.refused(x, "book(" + n + ")", x.book(n), 2);
      Due.same("count(13)", x.count(13), has);
      counts(x, FULL);
    }
    Due.same("as many as there are", x.book(has), 1);
    Due.same("grip(0, 0): what stayed", x.grip(0, 0), 10);
    Due.refused(x, "book(-1) of the empty tape", x.book(-1), 2);
  }

  private static void bookRefusedByFault() {
    Due.edge("promise 3", "4 (the BOOK stays)");
    SoftWheels x = full();
    String[] bad = {"", SAND + ";", SAND + ";" + SAND, "ground c sinks 0 99 grips 0 99;rover wheels 9", TRY + ";" + TRY,
        "ground c sinks 0 9 grips 0 9;" + ROVER + ";" + ROVER};
    for (String text : bad) {
      Due.refused(x, "book \"" + text + "\"", Due.book(x, text), 4);
      counts(x, FULL);
      Due.same("count(13)", x.count(13), 0);
      Due.same("sink(0, 0)", x.sink(0, 0), 7);
      Due.same("grip(1, 0)", x.grip(1, 0), 2);
      Due.same("of(1, 0)", x.of(1, 0), 5);
      Due.same("out()", x.out(), 15);
      Due.same("step(0, 3, 1, 0)", x.step(0, 3, 1, 0), 4);
    }
    SoftWheels none = new SoftWheels();
    Due.refused(none, "a first book with a fault", Due.book(none, SAND + ";"), 4);
    counts(none, 0, 0, 0, 0, 0, 0, 0, 0, 0, 0, 0, 0, 0, 0);
    Due.refused(none, "dead(0): still no book", none.dead(0), 1);
  }

  private static void faultTold() {
    Due.edge("promise 5", "The FAULT of the latest book(), plan() not refused by 1, 2");
    SoftWheels x = new SoftWheels();
    Due.book(x, "rover wheels 1");
    Due.same("fault()", x.fault(), 4);
    Due.refused(x, "plan(0)", x.plan(0), 1);
    Due.same("fault() past one refused by 1", x.fault(), 4);
    Due.refused(x, "book(1)", x.book(1), 2);
    Due.same("fault() past one refused by 2", x.fault(), 4);
    Due.refused(x, "sink(0, 0)", x.sink(0, 0), 1);
    Due.same("fault() past another call", x.fault(), 4);
    Due.book(x, SAND + ";" + SAND);
    Due.same("fault() of the next", x.fault(), 3);
    Due.edge("promise 5", "0 without one");
    Due.same("fault() of a new one", new SoftWheels().fault(), 0);
    Due.book(x, SAND);
    Due.same("fault() of a good book", x.fault(), 0);
    x.map(1, 1);
    Due.plan(x, "up 0");
    Due.same("fault() of a plan", x.fault(), 4);
    Due.refused(x, "plan(1)", x.plan(1), 2);
    Due.same("fault() past a plan refused by 2", x.fault(), 4);
    Due.plan(x, "up");
    Due.same("fault() of a good plan", x.fault(), 0);
    for (int i = 1; i < 8; i++) Due.plan(x, "up");
    Due.book(x, "");
    Due.same("fault()", x.fault(), 1);
    Due.refused(x, "a ninth plan", Due.plan(x, "up"), 3);
    Due.same("fault() of a plan refused by 3", x.fault(), 0);
  }

  private static void placeTold() {
    Due.edge("promise 6", "Its place, if the latest call that may be refused was by 4");
    SoftWheels x = Due.withBook(SAND);
    x.map(1, 1);
    Due.book(x, "ground a sinks 0 301");
    Due.same("where()", x.where(), 17);
    Due.same("where() again", x.where(), 17);
    x.feed(0, 0, 0, 0, 0);
    x.fault();
    x.of(0, 0);
    x.of(9, 9);
    x.truths();
    x.truth(0, 0);
    x.first(0);
    x.count(0);
    x.count(99);
    x.trouble();
    Due.same("where() past calls that may not be refused", x.where(), 17);
    x.book(0);
    Due.same("where() of the next", x.where(), 0);
    Due.plan(x, "up 0");
    Due.same("where() of a plan", x.where(), 3);
    Due.edge("promise 6", "NONE else");
    Due.same("where() of a new one", new SoftWheels().where(), -1);
    x.sink(0, 0);
    Due.same("where() past one not refused", x.where(), -1);
    Due.book(x, "");
    x.sink(9, 0);
    Due.same("where() past one refused by 1", x.where(), -1);
    Due.book(x, "");
    x.book(1);
    Due.same("where() past one refused by 2", x.where(), -1);
    Due.book(x, SAND);
    Due.same("where() of a good book", x.where(), -1);
  }

  private static void blanks() {
    Due.edge("terms I", "blanks, 32, part TOKENS and mean nothing else");
    Due.goodBook(1, "   ground   sand  sinks  0   0   grips  0  10   ");
    Due.goodBook(1, "ground sand sinks0 0,1 1grips0 10");
    Due.goodBook(0, "rover wheels2weight1clear1tip0drag0");
    Due.goodBook(0, "try a each-1one-1cost1");
    Due.goodBook(0, "try a each - 1 one - 1 cost 1 ;try b each 0 one 0 cost 1");
    Due.badBook(1, "^groundsand sinks 0 0 grips 0 1");
    Due.badBook(1, "^gro und sand sinks 0 0 grips 0 1");
    Due.badBook(1, "ground sand ^sinksgrips 0 0");
    Due.badBook(1, "ground sand sinks 00 ^grips 0 1");
    Due.badBook(1, "ground sand sinks 0 0 ^0 grips 0 1");
    for (char c : new char[] {0, 9, 10, 13, 31, 33, 127, 128, 160, 255}) Due.badBook(1, "ground sand^" + c + "sinks 0 0 grips 0 1");
  }

  private static void words() {
    Due.edge("terms I", "WORDS of 1 to 8 small letters that stand together");
    Due.goodBook(1, "ground a sinks 0 0 grips 0 1");
    Due.goodBook(1, "ground z sinks 0 0 grips 0 1");
    Due.goodBook(1, "ground abcdefgz sinks 0 0 grips 0 1");
    Due.badBook(1, "ground ^abcdefghi sinks 0 0 grips 0 1");
    Due.badBook(1, "ground ^" + "a".repeat(300) + " sinks 0 0 grips 0 1");
    Due.badBook(1, "^groundgro a");
    Due.badBook(1, "ground abcdefgh^A sinks 0 0 grips 0 1");
    for (char c : new char[] {'A', 'Z', '`', '{', '_', (char) 225}) {
      Due.badBook(1, "ground ^" + c + " sinks 0 0 grips 0 1");
      Due.badBook(1, "ground a^" + c + " sinks 0 0 grips 0 1");
    }
  }

  private static void wholes() {
    Due.edge("terms I", "WHOLES of 1 to 4 digits that do");
    SoftWheels x = Due.goodBook(1, "ground a sinks 0009 0300 grips 009 09");
    Due.same("sink(0, 0)", x.sink(0, 0), 300);
    Due.same("grip(0, 0)", x.grip(0, 0), 9);
    Due.badBook(1, "ground a sinks ^00009 0 grips 0 1");
    Due.badBook(1, "ground a sinks 0 ^" + "0".repeat(300) + " grips 0 1");
    Due.badBook(1, "ground a sinks 0 ^4294967296 grips 0 1");
    Due.badBook(4, "ground a sinks ^9999 0 grips 0 1");
    for (char c : new char[] {'/', ':', '.', '+'}) {
      Due.badBook(1, "ground a sinks ^" + c + " 0 grips 0 1");
      Due.badBook(1, "ground a sinks 1^" + c + " 0 grips 0 1");
    }
  }

  private static void signs() {
    Due.edge("terms I", "single ones of ; , - ( )");
    Due.badBook(1, "ground a sinks 0 0,^,1 1 grips 0 1");
    Due.badBook(1, "ground a sinks 0 0^;1 1 grips 0 1");
    Due.badBook(1, "ground a sinks 0 0 ^- 1 1 grips 0 1");
    Due.badBook(1, "ground a sinks ^(0 0) grips 0 1");
    Due.badBook(1, "ground a sinks 0 0^) grips 0 1");
    for (char c = 33; c < 48; c++) {
      if (c != ',') Due.badBook(1, "ground a sinks 0 0 ^" + c + " 1 1 grips 0 1");
    }
    for (char c : new char[] {'[', ']', '{', '}', '<', '>', '=', '|', '~', '@'}) Due.badBook(1, SAND + "^" + c + TRY);
  }

  private static void lines() {
    Due.edge("terms I", "BOOK: LINE {; LINE}");
    Due.goodBook(1, SAND + ";" + TRY + ";" + ROVER);
    Due.goodBook(1, ROVER + ";" + TRY + ";" + SAND);
    Due.badBook(1, "^");
    Due.badBook(1, "^;");
    Due.badBook(1, "^;" + SAND);
    Due.badBook(1, SAND + ";^");
    Due.badBook(1, SAND + ";^;" + TRY);
    Due.badBook(1, SAND + " ^" + TRY);
    Due.badBook(1, SAND + " , ^" + TRY);
    Due.badBook(1, TRY + " ^, " + TRY);
    Due.badBook(1, "^sand sinks 0 0 grips 0 1");
    Due.badBook(1, "^up");
    Due.badBook(1, "^1");
  }

  private static void loadsAndDepths() {
    Due.edge("terms I", "LOAD 0 .. 999 ... each above the one ahead");
    Due.goodBook(1, "ground a sinks 0 0,1 0,998 0,999 0 grips 0 1");
    Due.goodBook(1, "ground a sinks 999 0 grips 0 1");
    Due.badBook(4, "ground a sinks ^1000 0 grips 0 1");
    Due.badBook(4, "ground a sinks 1 0,^1 0 grips 0 1");
    Due.badBook(4, "ground a sinks 1 0,^0 0 grips 0 1");
    Due.badBook(4, "ground a sinks 999 0,^1000 0 grips 0 1");
    Due.badBook(4, "ground a sinks 0 0,1 0,2 0,^2 0 grips 0 1");
    Due.edge("terms I", "DEPTH 0 .. 300, not below the one ahead");
    Due.goodBook(1, "ground a sinks 0 0,1 0,2 300,3 300 grips 0 1");
    Due.badBook(4, "ground a sinks 0 ^301 grips 0 1");
    Due.badBook(4, "ground a sinks 0 300,1 ^299 grips 0 1");
    Due.badBook(4, "ground a sinks 0 300,1 ^301 grips 0 1");
    Due.badBook(4, "ground a sinks 0 1,1 ^0 grips 0 1");
    Due.goodBook(2, "ground a sinks 9 9 grips 0 1;ground b sinks 0 0 grips 0 1");
    Due.edge("terms I", "up to 4 pairs each (sinks)");
    Due.badBook(5, "ground a sinks 0 0,1 0,2 0,3 0,^4 0 grips 0 1");
    Due.badBook(5, "ground a sinks 0 0,1 0,2 0,3 0,^4");
    Due.badBook(1, "ground a sinks ^grips 0 1");
    Due.badBook(1, "ground a sinks 0 ^grips 0 1");
  }

  private static void slipsAndPulls() {
    Due.edge("terms I", "SLIP 0 .. 90, each above the one ahead");
    Due.goodBook(1, "ground a sinks 0 0 grips 0 1,1 1,89 1,90 1");
    Due.goodBook(1, "ground a sinks 0 0 grips 90 1");
    Due.badBook(4, "ground a sinks 0 0 grips ^91 1");
    Due.badBook(4, "ground a sinks 0 0 grips 90 1,^91 1");
    Due.badBook(4, "ground a sinks 0 0 grips 5 1,^5 1");
    Due.badBook(4, "ground a sinks 0 0 grips 5 1,^4 1");
    Due.edge("terms I", "PULL 0 .. 150");
    Due.goodBook(1, "ground a sinks 0 0 grips 0 0,1 150,2 0,3 150");
    Due.badBook(4, "ground a sinks 0 0 grips 0 ^151");
    Due.badBook(4, "ground a sinks 0 0 grips 0 150,1 ^151");
    Due.edge("terms I", "up to 4 pairs each (grips)");
    Due.badBook(5, "ground a sinks 0 0 grips 0 1,1 1,2 1,3 1,^4 1");
    Due.badBook(5, "ground a sinks 0 0 grips 0 1,1 1,2 1,3 1,^4");
    Due.badBook(1, "ground a sinks 0 0 grips^");
    Due.badBook(1, "ground a sinks 0 0 grips 0^");
    Due.badBook(1, "ground a sinks 0 0 grips 0 1,^");
  }

  private static void roverBounds() {
    Due.edge("terms I", "2 .. 6, 1 .. 999, 1 .. 300, 0 .. 300, 0 .. 99");
    counts(Due.goodBook(0, "rover wheels 2 weight 1 clear 1 tip 0 drag 0"), 0, 0, 2, 1, 1, 0, 0);
    counts(Due.goodBook(0, "rover wheels 6 weight 999 clear 300 tip 300 drag 99"), 0, 0, 6, 999, 300, 300, 99);
    Due.badBook(4, "rover wheels ^0 weight 1 clear 1 tip 0 drag 0");
    Due.badBook(4, "rover wheels ^1 weight 1 clear 1 tip 0 drag 0");
    Due.badBook(4, "rover wheels ^7 weight 1 clear 1 tip 0 drag 0");
    Due.badBook(4, "rover wheels 2 weight ^0 clear 1 tip 0 drag 0");
    Due.badBook(4, "rover wheels 2 weight ^1000 clear 1 tip 0 drag 0");
    Due.badBook(4, "rover wheels 2 weight 1 clear ^0 tip 0 drag 0");
    Due.badBook(4, "rover wheels 2 weight 1 clear ^301 tip 0 drag 0");
    Due.badBook(4, "rover wheels 2 weight 1 clear 1 tip ^301 drag 0");
    Due.badBook(4, "rover wheels 2 weight 1 clear 1 tip 0 drag ^100");
    Due.badBook(1, "rover wheels 2 weight 1 clear 1 tip ^-1 drag 0");
    String[] words = {"rover", " wheels", " 2", " weight", " 1", " clear", " 1", " tip", " 0", " drag", " 0"};
    StringBuilder text = new StringBuilder();
    for (String word : words) {
      if (text.length() > 0) Due.badBook(1, text + "^");
      if (text.length() > 0) Due.badBook(1, text + " ^sand");
      text.append(word);
    }
    Due.goodBook(0, text.toString());
  }

  private static void roverOnce() {
    Due.edge("terms I", "once at most");
    Due.badBook(3, ROVER + ";^" + ROVER);
    Due.badBook(3, ROVER + ";" + SAND + ";^rover");
    Due.badBook(3, "rover wheels 4 weight 100 clear 100 tip 100 drag 0;^rover wheels 4 weight 100 clear 100 tip 100 drag 0");
    SoftWheels x = Due.goodBook(0, ROVER);
    Due.same("once in the next book, too", Due.book(x, ROVER), 0);
    Due.edge("terms I", "4, 100, 100, 100, 0 without it");
    counts(Due.goodBook(1, SAND), 1, 0, 4, 100, 100, 100, 0);
    counts(x, 0, 0, 2, 1, 1, 0, 0);
    Due.same("a book without it behind one with it", Due.book(x, TRY), 0);
    counts(x, 0, 1, 4, 100, 100, 100, 0);
  }

  private static void tryBounds() {
    Due.edge("terms I", "try NAME each INT one INT cost WHOLE (-4 .. 4, -4 .. 4, 1 .. 99)");
    Due.goodBook(0, "try a each -4 one -4 cost 1;try b each 4 one 4 cost 99");
    Due.badBook(4, "try a each ^5 one 0 cost 1");
    Due.badBook(4, "try a each 0 one ^5 cost 1");
    Due.badBook(4, "try a each 0 one 0 cost ^0");
    Due.badBook(4, "try a each 0 one 0 cost ^100");
    Due.badBook(1, "try a each 0 one 0 cost ^-1");
    Due.edge("terms I", "at the - ahead of it");
    Due.badBook(4, "try a each ^-5 one 0 cost 1");
    Due.badBook(4, "try a each ^-   5 one 0 cost 1");
    Due.badBook(4, "try a each 0 one ^-5 cost 1");
    Due.badBook(4, "try a each ^-9999 one 0 cost 1");
    Due.edge("terms I", "INT: WHOLE or - WHOLE");
    SoftWheels x = Due.goodBook(0, "try a each -0 one -0 cost 1");
    x.dig(0, 2);
    Due.same("make(0, 0) changes nothing", x.make(0, 0), 2);
    Due.badBook(1, "try a each -^-1 one 0 cost 1");
    Due.badBook(1, "try a each - ^one 0 cost 1");
    Due.badBook(1, "try a each ^+1 one 0 cost 1");
    Due.badBook(1, "try a each -^12345 one 0 cost 1");
    Due.badBook(1, "try a each -^");
    Due.badBook(1, "try a each ^one 0 cost 1");
  }

  private static void names() {
    Due.edge("terms I", "NAMES are WORDS but ground, rover, try, if, is, else, right, left, up, down");
    for (String kept : KEPT) {
      Due.badBook(1, "ground ^" + kept + " sinks 0 0 grips 0 1");
      Due.badBook(1, "try ^" + kept + " each 0 one 0 cost 1");
      String more = kept + "s";
      Due.goodBook(1, "ground " + more + " sinks 0 0 grips 0 1;try " + more + " each 0 one 0 cost 1");
      String less = kept.substring(1);
      Due.goodBook(1, "ground " + less + " sinks 0 0 grips 0 1;try " + less + " each 0 one 0 cost 1");
    }
    for (String free : new String[] {"sinks", "grips", "wheels", "weight", "clear", "tip", "drag", "each", "one", "cost"}) {
      Due.goodBook(1, "ground " + free + " sinks 0 0 grips 0 1;try " + free + " each 0 one 0 cost 1");
    }
    Due.badBook(1, "ground ^1 sinks 0 0 grips 0 1");
    Due.badBook(1, "ground ^");
    Due.badBook(1, "try ^");
    Due.edge("terms I", "GROUNDS and TRIES may have one NAME");
    Due.goodBook(1, "ground a sinks 0 0 grips 0 1;try a each 0 one 0 cost 1");
    Due.goodBook(1, "try a each 0 one 0 cost 1;ground a sinks 0 0 grips 0 1");
    Due.edge("terms I", "3 a NAME of a GROUND (of a TRY) told again, at it");
    Due.badBook(3, "ground a sinks 0 0 grips 0 1;ground ^a sinks 0 0 grips 0 1");
    Due.badBook(3, "ground b sinks 0 0 grips 0 1;ground a sinks 0 0 grips 0 1;" + TRY + ";ground ^b");
    Due.badBook(3, "try a each 0 one 0 cost 1;try ^a each 0 one 0 cost 1");
    Due.badBook(3, "try b each 0 one 0 cost 1;" + TRY + ";" + SAND + ";try ^b");
    Due.goodBook(3, "ground a sinks 0 0 grips 0 1;ground aa sinks 0 0 grips 0 1;ground b sinks 0 0 grips 0 1");
    Due.goodBook(2, "ground abcdefgh sinks 0 0 grips 0 1;ground abcdefgi sinks 0 0 grips 0 1");
    Due.goodBook(2, "ground bbcdefgh sinks 0 0 grips 0 1;ground abcdefgh sinks 0 0 grips 0 1");
    Due.goodBook(4, "ground ab sinks 0 0 grips 0 1;ground ba sinks 0 0 grips 0 1;ground bb sinks 0 0 grips 0 1;ground abb sinks 0 0 grips 0 1");
    Due.goodBook(4, "ground b sinks 0 0 grips 0 1;ground bb sinks 0 0 grips 0 1;ground z sinks 0 0 grips 0 1;ground zz sinks 0 0 grips 0 1");
    Due.goodBook(0, "try ab each 0 one 0 cost 1;try ba each 0 one 0 cost 1;try b each 0 one 0 cost 1;try bb each 0 one 0 cost 1");
    SoftWheels x = Due.goodBook(1, SAND);
    Due.same("told again in the next book", Due.book(x, SAND), 1);
  }

  private static void howMany() {
    Due.edge("terms I", "Up to 8 GROUNDS");
    Due.goodBook(8, grounds(8) + TRY);
    Due.badBook(5, grounds(8) + "ground ^i sinks 0 0 grips 0 1");
    Due.badBook(5, grounds(8) + "ground ^i");
    Due.badBook(5, grounds(4) + TRY + ";" + ROVER + ";" + grounds(8).substring(grounds(4).length()) + "ground ^zzz");
    Due.edge("terms I", "6 TRIES");
    SoftWheels x = Due.goodBook(1, tries(6) + SAND);
    Due.same("count(1)", x.count(1), 6);
    Due.badBook(5, tries(6) + "try ^g each 0 one 0 cost 1");
    Due.badBook(5, tries(6) + SAND + ";try ^g");
    Due.same("eight grounds and six tries together", Due.book(x, grounds(8) + tries(6) + ROVER), 8);
    Due.same("count(1)", x.count(1), 6);
  }

  private static void firstFromTheLeft() {
    Due.edge("terms I", "FAULTS, the first that is met from the left");
    Due.badBook(1, "ground a ^? sinks 1000 0");
    Due.badBook(4, "ground a sinks ^1000 0 ?");
    Due.badBook(3, SAND + ";ground ^sand sinks 1000 0 grips");
    Due.badBook(4, "ground a sinks 0 ^301 grips 0 1;ground a sinks 0 0 grips 0 1");
    Due.badBook(4, "try a each ^5 one 5 cost 0");
    Due.badBook(4, "ground a sinks 0 0,1 1,2 2,3 ^0,4 4 grips 0 1");
    Due.badBook(5, "ground a sinks 0 0,1 1,2 2,3 3,^4 301 grips 0 1");
    Due.badBook(1, "ground a sinks 0 0,1 1,2 2,3 3^;4 4");
    Due.badBook(3, ROVER + ";^rover wheels 1");
  }

  private static void leastOfOnePlace() {
    Due.edge("terms I", "of one place the least number");
    Due.badBook(3, grounds(8) + "ground ^h sinks 0 0 grips 0 1");
    Due.badBook(1, grounds(8) + "ground ^up");
    Due.badBook(1, grounds(8) + "ground ^1");
    Due.badBook(3, tries(6) + "try ^a");
    Due.badBook(1, tries(6) + "try ^is");
    Due.badBook(4, "ground a sinks 0 0,1 0,2 0,3 0,^3 0 grips 0 1");
    Due.badBook(4, "ground a sinks 0 0,1 0,2 0,3 0,^1000 0 grips 0 1");
    Due.badBook(1, "ground a sinks 0 0,1 0,2 0,3 0,^grips 0 1");
    Due.badBook(1, "ground a sinks 0 0,1 0,2 0,3 0,^10000 0");
    Due.badBook(4, "ground a sinks 0 0 grips 0 1,1 1,2 1,3 1,^91 1");
    Due.badBook(4, "ground a sinks 0 0 grips 0 1,1 1,2 1,3 1,^2 1");
    Due.badBook(1, "ground a sinks 0 0 grips 0 1,1 1,2 1,3 1,^");
  }

  private static void form() {
    Due.edge("terms I", "1 FORM: the first byte that begins no TOKEN, or TOKEN with which no BOOK goes on");
    String[] tokens = {"ground", " a", " sinks", " 1", " 2", ",", " 3", " 4", " grips", " 5", " 6", ",", " 7", " 8", ";", "try", " b", " each", " -", " 1",
        " one", " 2", " cost", " 3", ";", "rover", " wheels", " 4", " weight", " 5", " clear", " 6", " tip", " 7", " drag", " 8"};
    StringBuilder text = new StringBuilder();
    for (String token : tokens) {
      Due.badBook(1, text + " ^(");
      Due.badBook(1, text + " ^)");
      Due.badBook(1, text + " ^#");
      text.append(token);
    }
    Due.goodBook(1, text.toString());
    Due.edge("terms I", "1 FORM: a word other than the one that is due");
    for (String good : new String[] {SAND, TRY, ROVER}) {
      for (String word : new String[] {"ground", "sinks", "grips", "try", "each", "one", "cost", "rover", "wheels", "weight", "clear", "tip", "drag"}) {
        int place = good.indexOf(word);
        for (int i = 0; i < word.length() && place >= 0; i++) {
          String other = word.substring(0, i) + (word.charAt(i) == 'x' ? 'y' : 'x') + word.substring(i + 1);
          Due.badBook(1, good.substring(0, place) + "^" + other + good.substring(place + word.length()));
        }
        if (place >= 0) Due.badBook(1, good.substring(0, place) + "^" + word + "s" + good.substring(place + word.length()));
      }
    }
    Due.edge("terms I", "1 FORM: a TOKEN that is left out");
    String[] lacking = {"^sand sinks 0 0 grips 0 10", "ground sinks ^0 0 grips 0 10", "ground sand ^0 0 grips 0 10", "ground sand sinks ^grips 0 10",
        "ground sand sinks 0 ^grips 0 10", "ground sand sinks 0 0 ^0 10", "ground sand sinks 0 0 grips^", "ground sand sinks 0 0 grips 0^",
        "ground sand sinks 0 0 ^1 1 grips 0 10", "^a each 0 one 0 cost 1", "try each ^0 one 0 cost 1", "try a ^0 one 0 cost 1", "try a each ^one 0 cost 1",
        "try a each 0 ^0 cost 1", "try a each 0 one ^cost 1", "try a each 0 one 0 ^1", "try a each 0 one 0 cost^", "try a ^-1 one 0 cost 1",
        "try a each 0 ^-1 cost 1", "^wheels 2 weight 1 clear 1 tip 0 drag 0", "rover ^2 weight 1 clear 1 tip 0 drag 0",
        "rover wheels ^weight 1 clear 1 tip 0 drag 0", "rover wheels 2 ^1 clear 1 tip 0 drag 0", "rover wheels 2 weight ^clear 1 tip 0 drag 0",
        "rover wheels 2 weight 1 ^1 tip 0 drag 0", "rover wheels 2 weight 1 clear ^tip 0 drag 0", "rover wheels 2 weight 1 clear 1 ^0 drag 0",
        "rover wheels 2 weight 1 clear 1 tip ^drag 0", "rover wheels 2 weight 1 clear 1 tip 0 ^0", "rover wheels 2 weight 1 clear 1 tip 0 drag^"};
    for (String lack : lacking) Due.badBook(1, lack);
    Due.edge("terms I", "(the end: its place)");
    text.setLength(0);
    for (String token : tokens) {
      String told = text.toString();
      boolean ends = told.endsWith("grips 5 6") || told.endsWith(" 8") || told.endsWith("cost 3");
      if (ends) {
        Due.goodBook(1, told);
      } else {
        Due.badBook(1, told + "^");
        Due.badBook(1, told + "   ^");
      }
      text.append(token);
    }
  }
}
