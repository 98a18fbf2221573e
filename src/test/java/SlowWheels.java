import java.math.BigInteger;
import java.util.ArrayList;
import java.util.Arrays;
import java.util.HashMap;
import java.util.LinkedHashMap;
import java.util.List;
import java.util.Map;
import java.util.NoSuchElementException;
import java.util.PriorityQueue;

/**
 * The document once more, as plainly as it can be said and without regard for speed: sets of
 * truths instead of states, fractions of big numbers, all faults of a text gathered and the
 * first one taken. ModelTest holds SoftWheels against it.
 */
public final class SlowWheels {
  private static final List<String> KEPT = List.of("ground", "rover", "try", "if", "is", "else",
      "right", "left", "up", "down");
  private static final List<String> WAYS = List.of("right", "left", "up", "down");

  static final class Ground { String name; List<int[]> sinks = new ArrayList<>(); List<int[]> grips = new ArrayList<>(); }
  static final class Try { String name; int each; int one; int cost; }
  static final class Book {
    List<Ground> grounds = new ArrayList<>();
    List<Try> tries = new ArrayList<>();
    int[] rover = {4, 100, 100, 100, 0};
    boolean roverTold;
  }
  static final class Step { int way = -1; int times = 1; int doubt; int ground; List<Step> then; List<Step> other; }
  static final class Doubt { int cell; int[] weights = new int[8]; int known = -1; }
  static final class Token { String text; int place; }
  static final class Bad extends RuntimeException { private static final long serialVersionUID = 1; }

  private final List<Integer> tape = new ArrayList<>();
  private Book book;
  private int wide;
  private int high;
  private int[] heights;
  private int[] grounds;
  private List<Doubt> doubts = new ArrayList<>();
  private final List<List<Step>> plans = new ArrayList<>();
  private int dead;
  private int[] dug = new int[6];
  private int trouble;
  private int fault;
  private int place;
  private List<Integer> trail = new ArrayList<>();
  private int[] first;

  // ---- texts

  private List<Token> tokens;
  private int next;
  private List<int[]> faults;
  private int stepsRead;

  private void begin(int n) {
    tokens = new ArrayList<>();
    next = 0;
    faults = new ArrayList<>();
    stepsRead = 0;
    StringBuilder text = new StringBuilder();
    for (int i = 0; i < n; i++) text.append((char) (int) tape.get(i));
    java.util.regex.Matcher m = java.util.regex.Pattern.compile("[a-z]+|[0-9]+|[^ ]").matcher(text);
    while (m.find()) {
      Token t = new Token();
      t.text = m.group();
      t.place = m.start();
      if (!t.text.matches("[a-z]{1,8}|[0-9]{1,4}|[;,()-]")) t.text = "?";
      tokens.add(t);
    }
    Token end = new Token();
    end.text = "";
    end.place = n;
    tokens.add(end);
  }

  private Token peek() { return tokens.get(next); }
  private boolean at(String text) { return peek().text.equals(text); }
  private void note(int number, int where) { faults.add(new int[] {number, where}); }
  private Bad form() { note(1, peek().place); return new Bad(); }
  private void expect(String text) { if (!at(text)) throw form(); next++; }

  private Token name() {
    Token t = peek();
    if (!t.text.matches("[a-z]+") || KEPT.contains(t.text)) throw form();
    next++;
    return t;
  }

  private int whole(int least, int most) {
    Token t = peek();
    if (!t.text.matches("[0-9]+")) throw form();
    next++;
    int v = Integer.parseInt(t.text);
    if (v < least || v > most) note(4, t.place);
    return v;
  }

  private int signed() {
    int where = peek().place;
    int sign = 1;
    if (at("-")) { next++; sign = -1; }
    Token t = peek();
    if (!t.text.matches("[0-9]+")) throw form();
    next++;
    int v = sign * Integer.parseInt(t.text);
    if (v < -4 || v > 4) note(4, where);
    return v;
  }

  private void pairs(List<int[]> into, int mostKey, int mostValue, boolean rising) {
    int key = -1;
    int value = 0;
    for (;;) {
      int where = peek().place;
      int k = whole(key + 1, mostKey);
      if (into.size() == 4) note(5, where);
      int v = whole(rising ? value : 0, mostValue);
      into.add(new int[] {k, v});
      key = k;
      value = v;
      if (!at(",")) return;
      next++;
    }
  }

  private void line(Book b) {
    if (at("ground")) {
      next++;
      Token n = name();
      Ground g = new Ground();
      g.name = n.text;
      for (Ground o : b.grounds) if (o.name.equals(n.text)) note(3, n.place);
      if (b.grounds.size() >= 8) note(5, n.place);
      expect("sinks");
      pairs(g.sinks, 999, 300, true);
      expect("grips");
      pairs(g.grips, 90, 150, false);
      b.grounds.add(g);
    } else if (at("rover")) {
      if (b.roverTold) note(3, peek().place);
      b.roverTold = true;
      next++;
      String[] words = {"wheels", "weight", "clear", "tip", "drag"};
      int[][] bounds = {{2, 6}, {1, 999}, {1, 300}, {0, 300}, {0, 99}};
      for (int i = 0; i < 5; i++) {
        expect(words[i]);
        b.rover[i] = whole(bounds[i][0], bounds[i][1]);
      }
    } else if (at("try")) {
      next++;
      Token n = name();
      Try t = new Try();
      t.name = n.text;
      for (Try o : b.tries) if (o.name.equals(n.text)) note(3, n.place);
      if (b.tries.size() >= 6) note(5, n.place);
      expect("each");
      t.each = signed();
      expect("one");
      t.one = signed();
      expect("cost");
      t.cost = whole(1, 99);
      b.tries.add(t);
    } else {
      throw form();
    }
  }

  private List<Step> steps(int open) {
    List<Step> all = new ArrayList<>();
    for (;;) {
      Step s = new Step();
      if (!WAYS.contains(peek().text) && !at("if")) throw form();
      stepsRead++;
      if (stepsRead > 40) note(5, peek().place);
      if (WAYS.contains(peek().text)) {
        s.way = WAYS.indexOf(peek().text);
        next++;
        if (peek().text.matches("[0-9]+")) s.times = whole(1, 9);
      } else {
        next++;
        Token d = peek();
        s.doubt = whole(0, 9999);
        if (s.doubt >= doubts.size()) note(2, d.place);
        expect("is");
        Token n = name();
        s.ground = -1;
        for (int g = 0; g < book.grounds.size(); g++) if (book.grounds.get(g).name.equals(n.text)) s.ground = g;
        if (s.ground < 0) note(2, n.place);
        s.then = block(open);
        s.other = new ArrayList<>();
        if (at("else")) { next++; s.other = block(open); }
      }
      all.add(s);
      if (!at(";")) return all;
      next++;
    }
  }

  private List<Step> block(int open) {
    if (at("(") && open >= 6) note(5, peek().place);
    expect("(");
    List<Step> inner = steps(open + 1);
    expect(")");
    return inner;
  }

  private boolean settleFault() {
    fault = 0;
    place = -1;
    for (int[] f : faults) {
      if (fault == 0 || f[1] < place || f[1] == place && f[0] < fault) { fault = f[0]; place = f[1]; }
    }
    return fault == 0;
  }

  // ---- answers

  private int no(int why) { trouble = why; return -1; }
  private long noLong(int why) { trouble = why; return Long.MIN_VALUE; }
  private boolean not(int why) { trouble = why; return false; }
  private int yes(int v) { trouble = 0; return v; }
  private boolean yes() { trouble = 0; return true; }

  public int feed(int a, int b, int c, int d, int e) {
    if (tape.size() + 20 > 500) return -1;
    for (int v : new int[] {a, b, c, d, e}) {
      tape.add(v >>> 24);
      tape.add(v >>> 16 & 255);
      tape.add(v >>> 8 & 255);
      tape.add(v & 255);
    }
    return tape.size();
  }

  public int book(int n) {
    if (n < 0 || n > tape.size()) return no(2);
    begin(n);
    tape.clear();
    Book b = new Book();
    try {
      for (;;) {
        line(b);
        if (at("")) break;
        expect(";");
      }
    } catch (Bad e) { /* it is noted */ }
    if (!settleFault()) return no(4);
    book = b;
    heights = null;
    doubts = new ArrayList<>();
    plans.clear();
    dead = 0;
    dug = new int[6];
    return yes(b.grounds.size());
  }

  public int plan(int n) {
    if (heights == null) return no(1);
    if (n < 0 || n > tape.size()) return no(2);
    begin(n);
    tape.clear();
    List<Step> p = null;
    try {
      p = steps(0);
      expect("");
    } catch (Bad e) { /* it is noted */ }
    if (!settleFault()) return no(4);
    if (plans.size() >= 8) return no(3);
    plans.add(p);
    return yes(plans.size() - 1);
  }

  public int fault() { return fault; }
  public int where() { return trouble == 4 ? place : -1; }

  private boolean hasGround(int g) { return book != null && g >= 0 && g < book.grounds.size(); }
  private boolean hasCell(int c) { return heights != null && c >= 0 && c < heights.length; }
  private boolean hasDoubt(int d) { return d >= 0 && d < doubts.size(); }

  private static int onLine(List<int[]> pairs, int x) {
    if (x <= pairs.get(0)[0]) return pairs.get(0)[1];
    for (int i = 1; i < pairs.size(); i++) {
      int[] p = pairs.get(i - 1);
      int[] q = pairs.get(i);
      // The whole value on the line, as one fraction, downwards.
      if (x <= q[0]) return Math.floorDiv(p[1] * (q[0] - x) + q[1] * (x - p[0]), q[0] - p[0]);
    }
    return pairs.get(pairs.size() - 1)[1];
  }

  public int sink(int ground, int load) {
    if (!hasGround(ground)) return no(1);
    if (load < 0 || load > 999) return no(2);
    return yes(onLine(book.grounds.get(ground).sinks, load));
  }

  public int grip(int ground, int slip) {
    if (!hasGround(ground)) return no(1);
    if (slip < 0 || slip > 90) return no(2);
    return yes(onLine(book.grounds.get(ground).grips, slip));
  }

  public boolean dead(int n) {
    if (book == null) return not(1);
    if (n < 0 || n >= book.rover[0]) return not(2);
    dead = n;
    return yes();
  }

  public int map(int w, int h) {
    if (book == null || book.grounds.isEmpty()) return no(1);
    if (w < 1 || w > 10 || h < 1 || h > 10) return no(2);
    wide = w;
    high = h;
    heights = new int[w * h];
    grounds = new int[w * h];
    doubts = new ArrayList<>();
    plans.clear();
    return yes(w * h);
  }

  private Doubt doubtAt(int cell) {
    for (Doubt d : doubts) if (d.cell == cell) return d;
    return null;
  }

  public boolean height(int cell, int v) {
    if (!hasCell(cell)) return not(1);
    if (v < 0 || v > 999) return not(2);
    heights[cell] = v;
    return yes();
  }

  public boolean ground(int cell, int g) {
    if (!hasCell(cell) || !hasGround(g)) return not(1);
    if (doubtAt(cell) != null) return not(5);
    grounds[cell] = g;
    return yes();
  }

  public int doubt(int cell) {
    if (!hasCell(cell)) return no(1);
    if (doubtAt(cell) != null) return no(5);
    if (doubts.size() == 5) return no(3);
    Doubt d = new Doubt();
    d.cell = cell;
    d.weights[grounds[cell]] = 1;
    doubts.add(d);
    return yes(doubts.size() - 1);
  }

  public boolean weigh(int doubt, int ground, int weight) {
    if (!hasDoubt(doubt) || !hasGround(ground)) return not(1);
    if (weight < 0 || weight > 9) return not(2);
    Doubt d = doubts.get(doubt);
    int[] would = d.weights.clone();
    would[ground] = weight;
    long above = Arrays.stream(would).filter(v -> v > 0).count();
    if (above == 0 || above > 3 || d.known == ground && weight == 0) return not(5);
    d.weights = would;
    return yes();
  }

  public boolean told(int doubt, int ground) {
    if (!hasDoubt(doubt) || !hasGround(ground)) return not(1);
    if (doubts.get(doubt).weights[ground] == 0) return not(5);
    doubts.get(doubt).known = ground;
    return yes();
  }

  public boolean forget(int doubt) {
    if (!hasDoubt(doubt)) return not(1);
    if (doubts.get(doubt).known < 0) return not(5);
    doubts.get(doubt).known = -1;
    return yes();
  }

  public int of(int cell, int what) {
    if (!hasCell(cell) || what < 0 || what > 2) return -1;
    Doubt d = doubtAt(cell);
    if (what == 0) return heights[cell];
    if (what == 2) return d == null ? -2 : doubts.indexOf(d);
    if (d == null) return grounds[cell];
    return d.known < 0 ? -2 : d.known;
  }

  // ---- steps

  private int beside(int cell, int way) {
    int x = cell % wide + (way == 0 ? 1 : way == 1 ? -1 : 0);
    int y = cell / wide + (way == 3 ? 1 : way == 2 ? -1 : 0);
    return x < 0 || x >= wide || y < 0 || y >= high ? -1 : y * wide + x;
  }

  /** why, need, slip, cost. */
  private int[] stepOf(int cell, int way, int ground) {
    int to = beside(cell, way);
    if (to < 0) return new int[] {1, -2, -2, -2};
    int load = book.rover[1] / book.rover[0];
    int sink = onLine(book.grounds.get(ground).sinks, load);
    int rise = heights[to] - heights[cell];
    if (rise > book.rover[3] || -rise > book.rover[3]) return new int[] {2, -2, -2, -2};
    if (sink > book.rover[2]) return new int[] {3, -2, -2, -2};
    int need = Math.max(0, Math.floorDiv(book.rover[1] * (rise + sink), 10) + dead * load * book.rover[4]);
    for (int slip = 0; slip <= 90; slip++) {
      int hold = load * (book.rover[0] - dead) * onLine(book.grounds.get(ground).grips, slip);
      if (hold >= need) return new int[] {0, need, slip, (1000 + need) / (100 - slip) + 1};
    }
    return new int[] {4, -2, -2, -2};
  }

  public int step(int cell, int way, int ground, int what) {
    if (!hasCell(cell) || way < 0 || way > 3 || !hasGround(ground) || what < 0 || what > 3) return no(1);
    return yes(stepOf(cell, way, ground)[what]);
  }

  // ---- truths: a truth is the row of grounds of all doubts

  private List<int[]> allTruths() {
    List<int[]> all = new ArrayList<>();
    if (heights == null) return all;
    all.add(new int[0]);
    for (Doubt d : doubts) {
      List<int[]> longer = new ArrayList<>();
      for (int[] t : all) {
        for (int g = 0; g < 8; g++) {
          if (d.known == g || d.known < 0 && d.weights[g] > 0) {
            int[] u = Arrays.copyOf(t, t.length + 1);
            u[t.length] = g;
            longer.add(u);
          }
        }
      }
      all = longer;
    }
    return all;
  }

  private BigInteger weightOf(int[] truth) {
    BigInteger w = BigInteger.ONE;
    for (int i = 0; i < truth.length; i++) {
      if (doubts.get(i).known < 0) w = w.multiply(BigInteger.valueOf(doubts.get(i).weights[truth[i]]));
    }
    return w;
  }

  private int groundAt(int cell, int[] truth) {
    Doubt d = doubtAt(cell);
    return d == null ? grounds[cell] : truth[doubts.indexOf(d)];
  }

  /** Those of some truths that look alike from a cell, each such set by itself. */
  private List<List<int[]>> seenFrom(int cell, List<int[]> truths) {
    Map<String, List<int[]>> parts = new LinkedHashMap<>();
    for (int[] t : truths) {
      StringBuilder look = new StringBuilder();
      for (int i = 0; i < doubts.size(); i++) {
        int c = doubts.get(i).cell;
        boolean near = c == cell;
        for (int w = 0; w < 4; w++) near |= beside(cell, w) == c;
        look.append(near ? (char) ('0' + t[i]) : '.');
      }
      parts.computeIfAbsent(look.toString(), k -> new ArrayList<>()).add(t);
    }
    return new ArrayList<>(parts.values());
  }

  /** A value is a sum over truths, by weights (by mean) or the greatest; null: no way. */
  private Map<String, BigInteger[]> found;
  private boolean byMean;
  private int goal;

  private void aim(int to, boolean mean) {
    found = new HashMap<>();
    byMean = mean;
    goal = to;
  }

  private BigInteger arrive(int cell, List<int[]> truths) {
    if (cell == goal) return BigInteger.ZERO;
    BigInteger all = BigInteger.ZERO;
    for (List<int[]> part : seenFrom(cell, truths)) {
      BigInteger v = best(part)[cell];
      if (v == null) return null;
      all = byMean ? all.add(v) : all.max(v);
    }
    return all;
  }

  private BigInteger cost(int toll, List<int[]> truths) {
    if (!byMean) return BigInteger.valueOf(toll);
    BigInteger sum = BigInteger.ZERO;
    for (int[] t : truths) sum = sum.add(weightOf(t));
    return sum.multiply(BigInteger.valueOf(toll));
  }

  /** For truths that can't be told apart yet, the best from each cell where they still can't. */
  private BigInteger[] best(List<int[]> truths) {
    StringBuilder key = new StringBuilder();
    for (int[] t : truths) key.append(Arrays.toString(t));
    BigInteger[] v = found.get(key.toString());
    if (v != null) return v;
    int n = heights.length;
    v = new BigInteger[n];
    boolean[] fixed = new boolean[n];
    for (int c = 0; c < n; c++) {
      fixed[c] = c == goal || seenFrom(c, truths).size() > 1;
      if (fixed[c]) v[c] = arrive(c, truths);
    }
    for (boolean more = true; more;) {
      more = false;
      for (int c = 0; c < n; c++) {
        for (int w = 0; w < 4 && !fixed[c]; w++) {
          BigInteger u = onward(c, w, truths, v);
          if (u != null && (v[c] == null || u.compareTo(v[c]) < 0)) { v[c] = u; more = true; }
        }
      }
    }
    found.put(key.toString(), v);
    return v;
  }

  private BigInteger onward(int cell, int way, List<int[]> truths, BigInteger[] v) {
    int to = beside(cell, way);
    if (to < 0 || v[to] == null) return null;
    int[] s = stepOf(cell, way, groundAt(to, truths.get(0)));
    return s[0] != 0 ? null : v[to].add(cost(s[3], truths));
  }

  private int wayAt(int cell, List<int[]> truths) {
    BigInteger[] v = best(truths);
    BigInteger least = null;
    int way = -1;
    for (int w = 0; w < 4; w++) {
      BigInteger u = onward(cell, w, truths, v);
      if (u != null && (least == null || u.compareTo(least) < 0)) { least = u; way = w; }
    }
    return way;
  }

  private List<int[]> stillAlike(int cell, List<int[]> truths, int[] truth) {
    for (List<int[]> part : seenFrom(cell, truths)) {
      for (int[] t : part) if (Arrays.equals(t, truth)) return part;
    }
    throw new IllegalStateException();
  }

  private int go(int from, int[] truth, List<Integer> cells) {
    List<int[]> left = stillAlike(from, allTruths(), truth);
    int cell = from;
    int sum = 0;
    cells.add(cell);
    while (cell != goal) {
      int w = wayAt(cell, left);
      int to = beside(cell, w);
      sum += stepOf(cell, w, groundAt(to, truth))[3];
      cell = to;
      cells.add(cell);
      left = stillAlike(cell, left, truth);
    }
    return sum;
  }

  private BigInteger worstOf(int from, int to) {
    aim(to, false);
    return arrive(from, allTruths());
  }

  private BigInteger[] meanOf(int from, int to) {
    aim(to, true);
    BigInteger v = arrive(from, allTruths());
    if (v == null) return null;
    return new BigInteger[] {v, allTruths().stream().map(this::weightOf).reduce(BigInteger.ZERO, BigInteger::add)};
  }

  private static long part(BigInteger over, BigInteger under, boolean denominator) {
    BigInteger g = over.gcd(under);
    return (denominator ? under : over).divide(g).longValueExact();
  }

  public int worst(int from, int to) {
    if (!hasCell(from) || !hasCell(to)) return no(1);
    BigInteger v = worstOf(from, to);
    return v == null ? no(6) : yes(v.intValueExact());
  }

  public long mean(int from, int to, boolean denominator) {
    if (!hasCell(from) || !hasCell(to)) return noLong(1);
    BigInteger[] m = meanOf(from, to);
    if (m == null) return noLong(6);
    trouble = 0;
    return part(m[0], m[1], denominator);
  }

  public int way(int from, int to, boolean mean) {
    if (!hasCell(from) || !hasCell(to)) return no(1);
    for (int w = -1; w < 4; w++) {
      int c = w < 0 ? from : beside(from, w);
      Doubt d = c < 0 ? null : doubtAt(c);
      if (d != null && d.known < 0) return no(5);
    }
    aim(to, mean);
    if (arrive(from, allTruths()) == null) return no(6);
    return yes(from == to ? 4 : wayAt(from, allTruths()));
  }

  public int truths() { return allTruths().size(); }

  public int truth(int number, int doubt) {
    List<int[]> all = allTruths();
    if (number < 0 || number >= all.size() || !hasDoubt(doubt)) return -1;
    return all.get(number)[doubt];
  }

  public int run(int from, int to, boolean mean, int truth) {
    if (!hasCell(from) || !hasCell(to) || truth < 0 || truth >= allTruths().size()) return no(1);
    aim(to, mean);
    if (arrive(from, allTruths()) == null) return no(6);
    trail = new ArrayList<>();
    return yes(go(from, allTruths().get(truth), trail));
  }

  public int led(int i) {
    if (i < 0 || i >= trail.size()) throw new NoSuchElementException();
    return trail.get(i);
  }

  public int regret(int from, int to) {
    if (!hasCell(from) || !hasCell(to)) return no(1);
    aim(to, false);
    if (arrive(from, allTruths()) == null) return no(6);
    int most = 0;
    for (int[] t : allTruths()) {
      int least = arrive(from, List.of(t)).intValueExact();
      most = Math.max(most, go(from, t, new ArrayList<>()) - least);
    }
    return yes(most);
  }

  public long worth(int doubt, int from, int to, boolean denominator) {
    if (!hasDoubt(doubt) || !hasCell(from) || !hasCell(to)) return noLong(1);
    Doubt d = doubts.get(doubt);
    if (d.known >= 0) return noLong(5);
    BigInteger[] m = meanOf(from, to);
    if (m == null) return noLong(6);
    BigInteger over = BigInteger.ZERO;
    BigInteger under = BigInteger.ONE;
    int weights = Arrays.stream(d.weights).sum();
    for (int g = 0; g < 8; g++) {
      if (d.weights[g] > 0) {
        d.known = g;
        BigInteger[] k = meanOf(from, to);
        d.known = -1;
        BigInteger a = k[0].multiply(BigInteger.valueOf(d.weights[g]));
        BigInteger b = k[1].multiply(BigInteger.valueOf(weights));
        over = over.multiply(b).add(a.multiply(under));
        under = under.multiply(b);
      }
    }
    trouble = 0;
    return part(m[0].multiply(under).subtract(over.multiply(m[1])), m[1].multiply(under), denominator);
  }

  public int spared(int doubt, int from, int to) {
    if (!hasDoubt(doubt) || !hasCell(from) || !hasCell(to)) return no(1);
    Doubt d = doubts.get(doubt);
    if (d.known >= 0) return no(5);
    BigInteger w = worstOf(from, to);
    if (w == null) return no(6);
    int most = 0;
    for (int g = 0; g < 8; g++) {
      if (d.weights[g] > 0) {
        d.known = g;
        most = Math.max(most, worstOf(from, to).intValueExact());
        d.known = -1;
      }
    }
    return yes(w.intValueExact() - most);
  }

  // ---- plans

  private int rover;
  private int made;
  private int paid;

  private int follow(List<Step> plan, int[] truth) {
    for (Step s : plan) {
      if (s.way >= 0) {
        for (int i = 0; i < s.times; i++) {
          int to = beside(rover, s.way);
          int[] st = stepOf(rover, s.way, to < 0 ? 0 : groundAt(to, truth));
          if (st[0] != 0) return st[0];
          paid += st[3];
          made++;
          rover = to;
          seen[rover] = true;
        }
      } else {
        if (!isSeen(s.doubt)) return 5;
        int why = follow(truth[s.doubt] == s.ground ? s.then : s.other, truth);
        if (why != 0) return why;
      }
    }
    return 0;
  }

  private boolean[] seen;

  private boolean isSeen(int doubt) {
    Doubt d = doubts.get(doubt);
    boolean is = d.known >= 0 || seen[d.cell];
    for (int w = 0; w < 4; w++) is |= beside(d.cell, w) >= 0 && seen[beside(d.cell, w)];
    return is;
  }

  private int whyNot(int plan, int from, int to, int[] truth) {
    rover = from;
    made = 0;
    paid = 0;
    seen = new boolean[heights.length];
    seen[from] = true;
    int why = follow(plans.get(plan), truth);
    return why != 0 ? why : rover == to ? 0 : 6;
  }

  public int failing(int plan, int from, int to, int bound) {
    if (plan < 0 || plan >= plans.size() || !hasCell(from) || !hasCell(to)) return no(1);
    if (bound < 0 || bound > 9999999) return no(2);
    first = new int[] {-2, -2, -2};
    int n = 0;
    List<int[]> all = allTruths();
    for (int i = all.size() - 1; i >= 0; i--) {
      int why = whyNot(plan, from, to, all.get(i));
      if (why == 0 && paid > bound) why = 7;
      if (why != 0) { n++; first = new int[] {i, why, made}; }
    }
    return yes(n);
  }

  public int first(int what) {
    return first == null || what < 0 || what > 2 ? -1 : first[what];
  }

  public int costs(int plan, int from, int to) {
    if (plan < 0 || plan >= plans.size() || !hasCell(from) || !hasCell(to)) return no(1);
    int most = 0;
    for (int[] t : allTruths()) {
      if (whyNot(plan, from, to, t) != 0) return no(6);
      most = Math.max(most, paid);
    }
    return yes(most);
  }

  // ---- dug in

  public boolean dig(int wheel, int v) {
    if (book == null || wheel < 0 || wheel >= book.rover[0]) return not(1);
    if (v < 0 || v > 4) return not(2);
    dug[wheel] = v;
    return yes();
  }

  private int[] after(int[] d, int t, int wheel) {
    int[] e = d.clone();
    Try y = book.tries.get(t);
    for (int w = 0; w < book.rover[0]; w++) {
      e[w] = Math.max(0, Math.min(4, e[w] + (w == wheel ? y.one : y.each)));
    }
    return e;
  }

  static final class Node {
    int[] dug;
    int cost;
    int[] moves = new int[0];
  }

  /** The wheels themselves, all ways in the order that the document tells. */
  private Node outOf() {
    PriorityQueue<Node> open = new PriorityQueue<>((a, b) -> a.cost != b.cost ? a.cost - b.cost
        : a.moves.length != b.moves.length ? a.moves.length - b.moves.length : Arrays.compare(a.moves, b.moves));
    Map<String, Boolean> done = new HashMap<>();
    Node n = new Node();
    n.dug = dug;
    open.add(n);
    while (!open.isEmpty()) {
      n = open.poll();
      if (done.put(Arrays.toString(n.dug), true) != null) continue;
      if (Arrays.stream(n.dug).allMatch(v -> v == 0)) return n;
      for (int t = 0; t < book.tries.size(); t++) {
        for (int w = 0; w < book.rover[0]; w++) {
          Node m = new Node();
          m.dug = after(n.dug, t, w);
          m.cost = n.cost + book.tries.get(t).cost;
          m.moves = Arrays.copyOf(n.moves, n.moves.length + 1);
          m.moves[n.moves.length] = 10 * t + w;
          if (!done.containsKey(Arrays.toString(m.dug))) open.add(m);
        }
      }
    }
    return null;
  }

  public int out() {
    if (book == null) return no(1);
    Node n = outOf();
    return n == null ? no(6) : yes(n.cost);
  }

  public int tryAt(int i) {
    if (book == null || i < 0) return no(1);
    Node n = outOf();
    return yes(n == null || i >= n.moves.length ? -2 : n.moves[i]);
  }

  public int make(int attempt, int wheel) {
    if (book == null || attempt < 0 || attempt >= book.tries.size() || wheel < 0 || wheel >= book.rover[0]) return no(1);
    dug = after(dug, attempt, wheel);
    return yes(Arrays.stream(dug).max().getAsInt());
  }

  public int count(int what) {
    switch (what) {
      case 0: return book == null ? 0 : book.grounds.size();
      case 1: return book == null ? 0 : book.tries.size();
      case 2: case 3: case 4: case 5: case 6: return book == null ? 0 : book.rover[what - 2];
      case 7: return dead;
      case 8: return heights == null ? 0 : heights.length;
      case 9: return doubts.size();
      case 10: return (int) doubts.stream().filter(d -> d.known < 0).count();
      case 11: return plans.size();
      case 12: return Arrays.stream(dug).max().getAsInt();
      case 13: return tape.size();
      default: return -1;
    }
  }

  public int trouble() { return trouble; }
}
