/** Promises 1 to 3 and 5 to 9: a new object, the tape, books and their faults, sink, grip, dead. */
public final class BookTest {
  private static final String SAND = "ground sand sinks 0 0 grips 0 10";

  public static void main(String[] args) {
    newObject();
    feeding();
    goodBooks();
    formFaults();
    otherFaults();
    leastOfOnePlace();
    booksThatStay();
    sinkAndGrip();
    deadWheels();
    Due.end("BookTest");
  }

  private static void newObject() {
    SoftWheels x = new SoftWheels();
    for (int i = 0; i <= 13; i++) Due.same("count(" + i + ") of a new one", x.count(i), 0);
    Due.same("truths()", x.truths(), 0);
    Due.same("trouble()", x.trouble(), 0);
    Due.same("fault()", x.fault(), 0);
    Due.same("where()", x.where(), -1);
    Due.same("first(0)", x.first(0), -1);
    Due.refused(x, "map(1, 1)", x.map(1, 1), 1);
    Due.refused(x, "plan(0)", x.plan(0), 1);
  }

  private static void feeding() {
    SoftWheels x = new SoftWheels();
    for (int i = 1; i <= 25; i++) Due.same("feed " + i, x.feed(0, 0, 0, 0, 0), 20 * i);
    Due.same("feed 26", x.feed(0, 0, 0, 0, 0), -1);
    Due.same("count(13)", x.count(13), 500);
    Due.same("trouble() of feed", x.trouble(), 0);
    // The highest byte first: "try a each 0 one 0 cost 1" in pieces.
    SoftWheels y = new SoftWheels();
    y.feed(0x74727920, 0x61206561, 0x63682030, 0x206f6e65, 0x20302063);
    y.feed(0x6f737420, 0x31202020, 0x20202020, 0x20202020, 0x20202020);
    Due.same("book(25)", y.book(25), 0);
    Due.same("count(1)", y.count(1), 1);
    Due.same("count(13)", y.count(13), 0);
  }

  private static void goodBooks() {
    SoftWheels x = new SoftWheels();
    Due.same("one ground", Due.book(x, SAND), 1);
    Due.same("fault()", x.fault(), 0);
    int[] usual = {1, 0, 4, 100, 100, 100, 0};
    for (int i = 0; i < 7; i++) Due.same("count(" + i + ") without rover", x.count(i), usual[i]);
    Due.same("only a rover", Due.book(x, "rover wheels 6 weight 999 clear 300 tip 0 drag 99"), 0);
    int[] told = {0, 0, 6, 999, 300, 0, 99};
    for (int i = 0; i < 7; i++) Due.same("count(" + i + ") of the rover", x.count(i), told[i]);
    Due.refused(x, "map(1, 1) without ground", x.map(1, 1), 1);
    Due.same("least rover", Due.book(x, "rover wheels 2weight1clear1tip300drag0"), 0);
    Due.same("no blanks where they part nothing", Due.book(x, "ground a sinks0 0,1 1grips0 150;try a each-4one-0 cost99"), 1);
    Due.same("one name for a ground and a try", x.count(1), 1);
    Due.same("names like other words", Due.book(x, "ground sinks sinks 0 0 grips 0 1;ground grips sinks 0 0 grips 0 1;"
        + "try each each 0 one 0 cost 1;try one each 1 one 1 cost 1"), 2);
    Due.same("four pairs", Due.book(x, " ground abcdefgh sinks 0 0,1 0, 2 300,0999 0300 grips 0 0,1 150,2 0,90 9 "), 1);
    StringBuilder many = new StringBuilder();
    for (int i = 0; i < 8; i++) many.append("ground ").append((char) ('a' + i)).append(" sinks 0 0 grips 0 1;");
    for (int i = 0; i < 6; i++) many.append("try ").append((char) ('a' + i)).append(" each 4 one -4 cost 1;");
    String text = many.substring(0, many.length() - 1);
    Due.same("eight grounds, six tries", Due.book(x, text), 8);
    Due.same("count(1)", x.count(1), 6);
    Due.same("a shorter text on the tape", feedAndBook(x, SAND + "; nonsense", SAND.length()), 1);
    Due.same("count(13)", x.count(13), 0);
  }

  private static int feedAndBook(SoftWheels x, String text, int n) {
    Due.feed(x, text);
    return x.book(n);
  }

  private static void formFaults() {
    Due.bookFault("", 1, 0);
    Due.bookFault("   ", 1, 3);
    Due.bookFault(SAND + ";", 1, SAND.length() + 1);
    Due.bookFault(SAND + " ;  ", 1, SAND.length() + 4);
    Due.bookFault(";" + SAND, 1, 0);
    Due.bookFault(SAND + SAND, 1, SAND.length());
    Due.bookFault("ground", 1, 6);
    Due.bookFault("Ground", 1, 0);
    Due.bookFault("grounda sinks", 1, 0);
    Due.bookFault("ground sand, sinks", 1, 11);
    Due.bookFault("ground 5 sinks 0 0 grips 0 1", 1, 7);
    for (String kept : new String[] {"ground", "rover", "try", "if", "is", "else", "right", "left", "up", "down"}) {
      Due.bookFault("ground " + kept + " sinks 0 0 grips 0 1", 1, 7);
      Due.bookFault("try " + kept + " each 0 one 0 cost 1", 1, 4);
    }
    Due.bookFault("ground abcdefghi sinks 0 0 grips 0 1", 1, 7);
    Due.bookFault("ground a sinks 00000 0 grips 0 1", 1, 15);
    Due.bookFault("ground a sinks 0 0, grips 0 1", 1, 20);
    Due.bookFault("ground a sinks 0 grips 0 1", 1, 17);
    Due.bookFault("ground a sinks -1 0 grips 0 1", 1, 15);
    Due.bookFault("ground a sinks 0 0; grips 0 1", 1, 18);
    Due.bookFault("ground a grips 0 0", 1, 9);
    Due.bookFault("ground a sinks 0 0 grips 0 1 (", 1, 29);
    Due.bookFault("rover weight 4", 1, 6);
    Due.bookFault("rover wheels 4 weight 4 clear 4 tip 4", 1, 37);
    Due.bookFault("try a each 0 one 0", 1, 18);
    Due.bookFault("try a each - one 0 cost 1", 1, 13);
    Due.bookFault("try a each --1 one 0 cost 1", 1, 12);
    Due.bookFault("try a each - 12345 one 0 cost 1", 1, 13);
    Due.bookFault("try a each 0 one 0 cost -1", 1, 24);
    Due.bookFault("try\ta", 1, 3);
    Due.bookFault("try a\u00e9", 1, 5);
    Due.bookFault("try \u0000a", 1, 4);
    Due.bookFault("up", 1, 0);
    Due.bookFault(SAND + "\u0000", 1, SAND.length());
    Due.bookFault("around a sinks 0 0 grips 0 1", 1, 0);
    Due.bookFault("groune a sinks 0 0 grips 0 1", 1, 0);
    Due.bookFault("ground a winks 0 0 grips 0 1", 1, 9);
  }

  private static void otherFaults() {
    Due.bookFault(SAND + ";" + SAND, 3, SAND.length() + 8);
    Due.bookFault("try a each 0 one 0 cost 1;try a", 3, 30);
    Due.bookFault("rover wheels 2 weight 1 clear 1 tip 0 drag 0;rover", 3, 45);
    Due.bookFault("ground a sinks 1000 0 grips 0 1", 4, 15);
    Due.bookFault("ground a sinks 0 301 grips 0 1", 4, 17);
    Due.bookFault("ground a sinks 5 0,5 0 grips 0 1", 4, 19);
    Due.bookFault("ground a sinks 5 1,6 0 grips 0 1", 4, 21);
    Due.bookFault("ground a sinks 0 0 grips 91 1", 4, 25);
    Due.bookFault("ground a sinks 0 0 grips 0 151", 4, 27);
    Due.bookFault("ground a sinks 0 0 grips 3 9,2 1", 4, 29);
    Due.bookFault("rover wheels 1", 4, 13);
    Due.bookFault("rover wheels 7", 4, 13);
    Due.bookFault("rover wheels 2 weight 0", 4, 22);
    Due.bookFault("rover wheels 2 weight 1000", 4, 22);
    Due.bookFault("rover wheels 2 weight 1 clear 0", 4, 30);
    Due.bookFault("rover wheels 2 weight 1 clear 301", 4, 30);
    Due.bookFault("rover wheels 2 weight 1 clear 1 tip 301", 4, 36);
    Due.bookFault("rover wheels 2 weight 1 clear 1 tip 0 drag 100", 4, 43);
    Due.bookFault("try a each 5 one 0 cost 1", 4, 11);
    Due.bookFault("try a each - 5 one 0 cost 1", 4, 11);
    Due.bookFault("try a each 0 one -5 cost 1", 4, 17);
    Due.bookFault("try a each 0 one 0 cost 0", 4, 24);
    Due.bookFault("try a each 0 one 0 cost 100", 4, 24);
    Due.bookFault("ground a sinks 0 0,1 1,2 2,3 3,4 4 grips 0 1", 5, 31);
    Due.bookFault("ground a sinks 0 0 grips 0 1,1 1,2 1,3 1,4 1", 5, 41);
    StringBuilder grounds = new StringBuilder();
    for (int i = 0; i < 8; i++) grounds.append("ground ").append((char) ('a' + i)).append(" sinks 0 0 grips 0 1;");
    Due.bookFault(grounds + "ground i", 5, grounds.length() + 7);
    StringBuilder tries = new StringBuilder();
    for (int i = 0; i < 6; i++) tries.append("try ").append((char) ('a' + i)).append(" each 0 one 0 cost 1;");
    Due.bookFault(tries + "try g", 5, tries.length() + 4);
    // The first from the left, not the first kind.
    Due.bookFault("ground a sinks 1000 0 ?", 4, 15);
    Due.bookFault("ground a ? sinks 1000 0", 1, 9);
  }

  private static void leastOfOnePlace() {
    Due.bookFault("ground a sinks 0 0,1 1,2 2,3 3,3 4 grips 0 1", 4, 31);
    Due.bookFault("ground a sinks 0 0,1 1,2 2,3 3,1000 4 grips 0 1", 4, 31);
    Due.bookFault("ground a sinks 0 0,1 1,2 2,3 3,up grips 0 1", 1, 31);
    StringBuilder grounds = new StringBuilder();
    for (int i = 0; i < 8; i++) grounds.append("ground ").append((char) ('a' + i)).append(" sinks 0 0 grips 0 1;");
    Due.bookFault(grounds + "ground c", 3, grounds.length() + 7);
    Due.bookFault(grounds + "ground up", 1, grounds.length() + 7);
  }

  private static void booksThatStay() {
    SoftWheels x = Due.withBook("ground a sinks 0 7 grips 0 1;try t each 0 one 1 cost 1");
    x.map(2, 2);
    x.dead(2);
    x.dig(0, 3);
    Due.plan(x, "right");
    Due.same("a book with a fault", Due.book(x, "ground b sinks 0 0 grips"), -1);
    Due.same("sink(0, 0)", x.sink(0, 0), 7);
    int[] stay = {1, 1, 4, 100, 100, 100, 0, 2, 4, 0, 0, 1, 3, 0};
    for (int i = 0; i < stay.length; i++) Due.same("count(" + i + ") stays", x.count(i), stay[i]);
    Due.same("fault()", x.fault(), 1);
    Due.same("where() behind a call not refused", x.where(), -1);
    Due.feed(x, "twenty bytes are here");
    Due.refused(x, "book(-1)", x.book(-1), 2);
    Due.refused(x, "book(41)", x.book(41), 2);
    Due.same("count(13) stays", x.count(13), 40);
    Due.same("fault() of the latest not refused by 2", x.fault(), 1);
    Due.same("where() of one refused by 2", x.where(), -1);
    Due.same("book(40)", x.book(40), -1);
    Due.same("where()", x.where(), 0);
    Due.same("of(9, 0) tells no number", x.of(9, 0), -1);
    Due.same("where() is not touched by it", x.where(), 0);
    Due.same("feed", x.feed(0, 0, 0, 0, 0), 20);
    Due.same("where() is not touched by feed", x.where(), 0);
    Due.same("book(0)", x.book(0), -1);
    Due.same("a new book", Due.book(x, SAND), 1);
    Due.same("fault() of it", x.fault(), 0);
    int[] fresh = {1, 0, 4, 100, 100, 100, 0, 0, 0, 0, 0, 0, 0, 0};
    for (int i = 0; i < fresh.length; i++) Due.same("count(" + i + ") of a new book", x.count(i), fresh[i]);
    Due.same("truths()", x.truths(), 0);
  }

  private static void sinkAndGrip() {
    SoftWheels x = Due.withBook("ground a sinks 10 3, 20 10, 23 10, 30 11 grips 5 9, 15 2, 90 150;ground b sinks 7 5 grips 9 4");
    int[][] sinks = {{0, 3}, {10, 3}, {11, 3}, {12, 4}, {19, 9}, {20, 10}, {22, 10}, {29, 10}, {30, 11}, {999, 11}};
    for (int[] s : sinks) Due.same("sink(0, " + s[0] + ")", x.sink(0, s[0]), s[1]);
    // From 9 down to 2 in ten: 9 - 0.7 is 8.3, downwards 8.
    int[][] grips = {{0, 9}, {5, 9}, {6, 8}, {7, 7}, {14, 2}, {15, 2}, {16, 3}, {89, 148}, {90, 150}};
    for (int[] g : grips) Due.same("grip(0, " + g[0] + ")", x.grip(0, g[0]), g[1]);
    Due.same("sink(1, 0)", x.sink(1, 0), 5);
    Due.same("grip(1, 90)", x.grip(1, 90), 4);
    Due.same("trouble()", x.trouble(), 0);
    Due.refused(x, "sink(2, 0)", x.sink(2, 0), 1);
    Due.refused(x, "sink(-1, 0)", x.sink(-1, 0), 1);
    Due.refused(x, "sink(2, -1)", x.sink(2, -1), 1);
    Due.refused(x, "sink(0, -1)", x.sink(0, -1), 2);
    Due.refused(x, "sink(0, 1000)", x.sink(0, 1000), 2);
    Due.refused(x, "grip(2, 0)", x.grip(2, 0), 1);
    Due.refused(x, "grip(-1, 91)", x.grip(-1, 91), 1);
    Due.refused(x, "grip(0, -1)", x.grip(0, -1), 2);
    Due.refused(x, "grip(0, 91)", x.grip(0, 91), 2);
    SoftWheels none = new SoftWheels();
    Due.refused(none, "sink(0, 0) without book", none.sink(0, 0), 1);
    Due.refused(none, "grip(0, 0) without book", none.grip(0, 0), 1);
  }

  private static void deadWheels() {
    SoftWheels x = new SoftWheels();
    Due.refused(x, "dead(-1) without book", x.dead(-1), 1);
    Due.book(x, "rover wheels 2 weight 1 clear 1 tip 0 drag 0");
    Due.refused(x, "dead(2)", x.dead(2), 2);
    Due.refused(x, "dead(-1)", x.dead(-1), 2);
    Due.same("dead(1)", x.dead(1), true);
    Due.same("trouble()", x.trouble(), 0);
    Due.same("count(7)", x.count(7), 1);
    Due.same("dead(0)", x.dead(0), true);
    Due.same("count(7)", x.count(7), 0);
  }
}
