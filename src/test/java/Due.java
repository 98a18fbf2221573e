import java.util.HashSet;
import java.util.Set;

/** What tests share: texts put on the tape, and answers held against those that are due. */
final class Due {
  private static int asked = 0;
  private static int wrong = 0;
  private static String sentence = "";
  private static final Set<String> SENTENCES = new HashSet<>();
  private static int askedBefore = 0;

  private Due() {}

  /** The words of the document, and where they stand, that the answers behind this are held against. */
  static void edge(String of, String words) {
    closeEdge();
    sentence = of + " \"" + words + "\": ";
    SENTENCES.add(sentence);
    askedBefore = asked;
  }

  private static void closeEdge() {
    if (!sentence.isEmpty() && asked == askedBefore) {
      wrong++;
      System.out.println(sentence + "nothing was asked");
    }
    sentence = "";
  }

  static void same(String call, long got, long want) {
    asked++;
    if (got != want) {
      wrong++;
      System.out.println(sentence + call + " answered " + got + ", due is " + want);
    }
  }

  static void same(String call, boolean got, boolean want) {
    same(call, got ? 1 : 0, want ? 1 : 0);
  }

  static void that(String what, boolean holds) {
    asked++;
    if (!holds) {
      wrong++;
      System.out.println(sentence + "not so: " + what);
    }
  }

  /** Told by the call: it is refused with NONE, and by this number. */
  static void refused(SoftWheels x, String call, int got, int trouble) {
    same(call, got, SoftWheels.NONE);
    same("trouble() behind " + call, x.trouble(), trouble);
  }

  /** Calls that answer a long are refused with -2^63. */
  static void refused(SoftWheels x, String call, long got, int trouble) {
    same(call, got, Long.MIN_VALUE);
    same("trouble() behind " + call, x.trouble(), trouble);
  }

  static void refused(SoftWheels x, String call, boolean got, int trouble) {
    same(call, got, false);
    same("trouble() behind " + call, x.trouble(), trouble);
  }

  static void end(String test) {
    closeEdge();
    String edges = SENTENCES.isEmpty() ? "" : SENTENCES.size() + " sentences, ";
    System.out.println(test + ": " + edges + asked + " asked, " + wrong + " wrong");
    if (wrong != 0 || asked == 0) {
      System.exit(1);
    }
  }

  static int word(String text, int from) {
    int number = 0;
    for (int i = from; i < from + 4; i++) {
      number = number << 8 | (i < text.length() ? text.charAt(i) & 255 : ' ');
    }
    return number;
  }

  /** Puts a text on the tape, with blanks behind it up to a multiple of twenty. */
  static void feed(SoftWheels x, String text) {
    that("room on the tape for " + text.length(), x.count(13) + (text.length() + 19) / 20 * 20 <= 500);
    for (int i = 0; i < text.length(); i += 20) {
      x.feed(word(text, i), word(text, i + 4), word(text, i + 8), word(text, i + 12),
          word(text, i + 16));
    }
  }

  static int book(SoftWheels x, String text) {
    feed(x, text);
    return x.book(text.length());
  }

  static int plan(SoftWheels x, String text) {
    feed(x, text);
    return x.plan(text.length());
  }

  /** A new object with a book. */
  static SoftWheels withBook(String text) {
    SoftWheels x = new SoftWheels();
    that("a good book: " + text, book(x, text) != SoftWheels.NONE);
    return x;
  }

  static void bookFault(String text, int fault, int place) {
    SoftWheels x = new SoftWheels();
    same("book \"" + text + "\"", book(x, text), SoftWheels.NONE);
    same("trouble() of \"" + text + "\"", x.trouble(), 4);
    same("fault() of \"" + text + "\"", x.fault(), fault);
    same("where() of \"" + text + "\"", x.where(), place);
  }

  /** A book with a fault at the place that ^ marks. */
  static void badBook(int fault, String marked) {
    bookFault(marked.replace("^", ""), fault, marked.indexOf('^'));
  }

  /** A plan with a fault at the place that ^ marks. */
  static void badPlan(SoftWheels x, int fault, String marked) {
    planFault(x, marked.replace("^", ""), fault, marked.indexOf('^'));
  }

  /** A good book: so many grounds. */
  static SoftWheels goodBook(int grounds, String text) {
    SoftWheels x = new SoftWheels();
    same("book \"" + text + "\"", book(x, text), grounds);
    same("trouble() of \"" + text + "\"", x.trouble(), 0);
    same("fault() of \"" + text + "\"", x.fault(), 0);
    return x;
  }

  static void planFault(SoftWheels x, String text, int fault, int place) {
    int before = x.count(11);
    same("plan \"" + text + "\"", plan(x, text), SoftWheels.NONE);
    same("trouble() of \"" + text + "\"", x.trouble(), 4);
    same("fault() of \"" + text + "\"", x.fault(), fault);
    same("where() of \"" + text + "\"", x.where(), place);
    same("count(11) behind \"" + text + "\"", x.count(11), before);
    same("count(13) behind \"" + text + "\"", x.count(13), 0);
  }
}
