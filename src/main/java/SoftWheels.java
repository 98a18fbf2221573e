import java.util.Arrays;
import java.util.NoSuchElementException;

public final class SoftWheels {
    public static final int NONE = -1;

    private static final long NO_LONG = 1L << 63;
    private static final int UNTOLD = -2;
    private static final int TAPE_ROOM = 500;
    private static final int FEED_BYTES = 20;
    private static final int MOST_GROUNDS = 8;
    private static final int MOST_TRIES = 6;
    private static final int MOST_PAIRS = 4;
    private static final int MOST_WHEELS = 6;
    private static final int MOST_LOAD = 999;
    private static final int MOST_DEPTH = 300;
    private static final int MOST_SLIP = 90;
    private static final int MOST_PULL = 150;
    private static final int MOST_PLANS = 8;
    private static final int MOST_STEPS = 40;
    private static final int MOST_OPEN = 6;
    private static final int MOST_SIDE = 10;
    private static final int MOST_CELLS = 100;
    private static final int MOST_HEIGHT = 999;
    private static final int MOST_DOUBTS = 5;
    private static final int MOST_CHOICES = 3;
    private static final int MOST_WEIGHT = 9;
    private static final int MOST_BOUND = 9999999;
    private static final int MOST_DUG = 4;
    private static final int WAYS = 4;
    private static final int AT_GOAL = 4;
    /** With each doubt that comes to be seen a rover may cross the whole map once more. */
    private static final int TRAIL_ROOM = MOST_CELLS * (MOST_DOUBTS + 1) + 1;

    private static final int NONE_SUCH = 1;
    private static final int BAD_NUMBER = 2;
    private static final int NO_ROOM = 3;
    private static final int FAULTY = 4;
    private static final int NOT_SO = 5;
    private static final int NO_WAY = 6;

    private static final int FORM = 1;
    private static final int UNKNOWN = 2;
    private static final int AGAIN = 3;
    private static final int BOUNDS = 4;
    private static final int MANY = 5;

    private static final int OFF_MAP = 1;
    private static final int TOO_STEEP = 2;
    private static final int TOO_DEEP = 3;
    private static final int NO_HOLD = 4;
    private static final int BLIND_IF = 5;
    private static final int ASTRAY = 6;
    private static final int TOO_DEAR = 7;

    private static final long NEVER = 1L << 60;

    private final byte[] tape;
    private int tapeSize;
    private final Tokens tokens;
    private final BookReader bookReader;
    private final PlanReader planReader;
    private Book rules;
    private Book spare;
    private final Plan[] plans;
    private int planCount;
    private final Land land;
    private final Steps steps;
    private final Ways worsts;
    private final Ways means;
    private final Judge judge;
    private final Digs digs;
    private final int[] trail;
    private final int[] noTrail;
    private int trailSize;
    private int refusal;
    private int lastFault;

    public SoftWheels() {
        tape = new byte[TAPE_ROOM];
        tapeSize = 0;
        tokens = new Tokens(tape);
        bookReader = new BookReader(tokens);
        planReader = new PlanReader(tokens);
        rules = new Book();
        spare = new Book();
        // One plan more than there may be: the text is read for faults ahead of the room.
        plans = new Plan[MOST_PLANS + 1];
        for (int i = 0; i <= MOST_PLANS; i++) {
            plans[i] = new Plan();
        }
        planCount = 0;
        land = new Land();
        steps = new Steps(land, rules);
        worsts = new Ways(land, steps, false);
        means = new Ways(land, steps, true);
        judge = new Judge(land, steps);
        digs = new Digs(rules);
        trail = new int[TRAIL_ROOM];
        noTrail = new int[0];
        trailSize = 0;
        refusal = 0;
        lastFault = 0;
    }

    // ---- the book

    public int feed(int a, int b, int c, int d, int e) {
        if (tapeSize + FEED_BYTES > TAPE_ROOM) {
            return NONE;
        }
        putBytes(a);
        putBytes(b);
        putBytes(c);
        putBytes(d);
        putBytes(e);
        return tapeSize;
    }

    private void putBytes(int number) {
        for (int shift = 24; shift >= 0 && tapeSize < TAPE_ROOM; shift -= 8) {
            tape[tapeSize] = (byte) (number >> shift);
            tapeSize++;
        }
    }

    public int book(int n) {
        if (n < 0 || n > tapeSize) {
            return refuse(BAD_NUMBER);
        }
        tapeSize = 0;
        tokens.begin(n);
        boolean whole = bookReader.read(spare);
        lastFault = tokens.fault;
        if (!whole) {
            return refuse(FAULTY);
        }
        Book old = rules;
        rules = spare;
        spare = old;
        land.clear();
        planCount = 0;
        steps.learn(rules);
        digs.learn(rules);
        return answer(rules.grounds);
    }

    public int plan(int n) {
        if (land.cells == 0) {
            return refuse(NONE_SUCH);
        }
        if (n < 0 || n > tapeSize) {
            return refuse(BAD_NUMBER);
        }
        tapeSize = 0;
        tokens.begin(n);
        boolean whole = planReader.read(plans[planCount], rules, land.doubts);
        lastFault = tokens.fault;
        if (!whole) {
            return refuse(FAULTY);
        }
        if (planCount >= MOST_PLANS) {
            return refuse(NO_ROOM);
        }
        planCount++;
        return answer(planCount - 1);
    }

    public int fault() {
        return lastFault;
    }

    public int where() {
        return refusal == FAULTY ? tokens.place : NONE;
    }

    public int sink(int ground, int load) {
        if (!rules.hasGround(ground)) {
            return refuse(NONE_SUCH);
        }
        if (load < 0 || load > MOST_LOAD) {
            return refuse(BAD_NUMBER);
        }
        return answer(rules.sinks.valueAt(ground, load));
    }

    public int grip(int ground, int slip) {
        if (!rules.hasGround(ground)) {
            return refuse(NONE_SUCH);
        }
        if (slip < 0 || slip > MOST_SLIP) {
            return refuse(BAD_NUMBER);
        }
        return answer(rules.grips.valueAt(ground, slip));
    }

    public boolean dead(int n) {
        if (!rules.isTold()) {
            return deny(NONE_SUCH);
        }
        if (n < 0 || n >= rules.wheels) {
            return deny(BAD_NUMBER);
        }
        steps.deadWheels = n;
        land.age++;
        return grant();
    }

    // ---- the map

    public int map(int wide, int high) {
        if (rules.grounds == 0) {
            return refuse(NONE_SUCH);
        }
        if (wide < 1 || wide > MOST_SIDE || high < 1 || high > MOST_SIDE) {
            return refuse(BAD_NUMBER);
        }
        land.lay(wide, high);
        planCount = 0;
        return answer(land.cells);
    }

    public boolean height(int cell, int v) {
        if (!land.hasCell(cell)) {
            return deny(NONE_SUCH);
        }
        if (v < 0 || v > MOST_HEIGHT) {
            return deny(BAD_NUMBER);
        }
        land.heights[cell] = v;
        land.age++;
        return grant();
    }

    public boolean ground(int cell, int g) {
        if (!land.hasCell(cell) || !rules.hasGround(g)) {
            return deny(NONE_SUCH);
        }
        if (land.doubtOf[cell] != NONE) {
            return deny(NOT_SO);
        }
        land.grounds[cell] = g;
        land.age++;
        return grant();
    }

    public int doubt(int cell) {
        if (!land.hasCell(cell)) {
            return refuse(NONE_SUCH);
        }
        if (land.doubtOf[cell] != NONE) {
            return refuse(NOT_SO);
        }
        if (land.doubts >= MOST_DOUBTS) {
            return refuse(NO_ROOM);
        }
        return answer(land.addDoubt(cell));
    }

    public boolean weigh(int doubt, int ground, int weight) {
        if (!land.hasDoubt(doubt) || !rules.hasGround(ground)) {
            return deny(NONE_SUCH);
        }
        if (weight < 0 || weight > MOST_WEIGHT) {
            return deny(BAD_NUMBER);
        }
        if (!land.maySetWeight(doubt, ground, weight)) {
            return deny(NOT_SO);
        }
        land.setWeight(doubt, ground, weight);
        return grant();
    }

    public boolean told(int doubt, int ground) {
        if (!land.hasDoubt(doubt) || !rules.hasGround(ground)) {
            return deny(NONE_SUCH);
        }
        if (land.weightOf(doubt, ground) == 0) {
            return deny(NOT_SO);
        }
        land.known[doubt] = ground;
        return grant();
    }

    public boolean forget(int doubt) {
        if (!land.hasDoubt(doubt)) {
            return deny(NONE_SUCH);
        }
        if (land.known[doubt] == NONE) {
            return deny(NOT_SO);
        }
        land.known[doubt] = NONE;
        return grant();
    }

    public int of(int cell, int what) {
        if (!land.hasCell(cell)) {
            return NONE;
        }
        int doubtHere = land.doubtOf[cell];
        switch (what) {
            case 0:
                return land.heights[cell];
            case 1:
                return doubtHere == NONE ? land.grounds[cell] : orUntold(land.known[doubtHere]);
            case 2:
                return orUntold(doubtHere);
            default:
                return NONE;
        }
    }

    private static int orUntold(int number) {
        return number == NONE ? UNTOLD : number;
    }

    // ---- steps

    public int step(int cell, int way, int ground, int what) {
        if (!land.hasCell(cell) || way < 0 || way >= WAYS || !rules.hasGround(ground)
                || what < 0 || what > 3) {
            return refuse(NONE_SUCH);
        }
        steps.measure(cell, way, ground);
        switch (what) {
            case 0:
                return answer(steps.why);
            case 1:
                return answer(steps.need);
            case 2:
                return answer(steps.slip);
            default:
                return answer(steps.cost);
        }
    }

    public int worst(int from, int to) {
        if (!areCells(from, to)) {
            return refuse(NONE_SUCH);
        }
        worsts.aim(to);
        long most = worsts.valueFrom(land.startState(), from);
        return most >= NEVER ? refuse(NO_WAY) : answer((int) most);
    }

    public long mean(int from, int to, boolean denominator) {
        if (!areCells(from, to)) {
            return refuseLong(NONE_SUCH);
        }
        int start = land.startState();
        means.aim(to);
        long sum = means.valueFrom(start, from);
        if (sum >= NEVER) {
            return refuseLong(NO_WAY);
        }
        refusal = 0;
        return lowestTerms(sum, land.totalWeight(start), denominator);
    }

    public int way(int from, int to, boolean byMean) {
        if (!areCells(from, to)) {
            return refuse(NONE_SUCH);
        }
        int start = land.startState();
        if ((land.sight[from] & land.unseen(start)) != 0) {
            return refuse(NOT_SO);
        }
        Ways ways = byMean ? means : worsts;
        ways.aim(to);
        if (ways.valueFrom(start, from) >= NEVER) {
            return refuse(NO_WAY);
        }
        return answer(from == to ? AT_GOAL : ways.bestFrom(start, from));
    }

    // ---- truths

    public int truths() {
        return land.truthCount();
    }

    public int truth(int number, int doubt) {
        if (number < 0 || number >= land.truthCount() || !land.hasDoubt(doubt)) {
            return NONE;
        }
        return land.groundIn(land.stateOfTruth(number), doubt);
    }

    public int run(int from, int to, boolean byMean, int truth) {
        if (!areCells(from, to) || truth < 0 || truth >= land.truthCount()) {
            return refuse(NONE_SUCH);
        }
        int start = land.startState();
        Ways ways = byMean ? means : worsts;
        ways.aim(to);
        if (ways.valueFrom(start, from) >= NEVER) {
            return refuse(NO_WAY);
        }
        int cost = ways.follow(from, start, land.stateOfTruth(truth), trail);
        trailSize = ways.followed;
        return answer(cost);
    }

    public int led(int i) throws NoSuchElementException {
        if (i < 0 || i >= trailSize || i >= TRAIL_ROOM) {
            throw new NoSuchElementException("no such cell of a run");
        }
        return trail[i];
    }

    public int regret(int from, int to) {
        if (!areCells(from, to)) {
            return refuse(NONE_SUCH);
        }
        int start = land.startState();
        worsts.aim(to);
        if (worsts.valueFrom(start, from) >= NEVER) {
            return refuse(NO_WAY);
        }
        long most = 0;
        int count = land.truthCount();
        for (int number = 0; number < count; number++) {
            int truth = land.stateOfTruth(number);
            long paid = worsts.follow(from, start, truth, noTrail);
            most = Math.max(most, paid - worsts.valueFrom(truth, from));
        }
        return answer((int) most);
    }

    public long worth(int doubt, int from, int to, boolean denominator) {
        if (!land.hasDoubt(doubt) || !areCells(from, to)) {
            return refuseLong(NONE_SUCH);
        }
        if (land.known[doubt] != NONE) {
            return refuseLong(NOT_SO);
        }
        int start = land.startState();
        means.aim(to);
        long sum = means.valueFrom(start, from);
        if (sum >= NEVER) {
            return refuseLong(NO_WAY);
        }
        long told = means.valueTold(start, doubt, from);
        refusal = 0;
        return lowestTerms(sum - told, land.totalWeight(start), denominator);
    }

    public int spared(int doubt, int from, int to) {
        if (!land.hasDoubt(doubt) || !areCells(from, to)) {
            return refuse(NONE_SUCH);
        }
        if (land.known[doubt] != NONE) {
            return refuse(NOT_SO);
        }
        int start = land.startState();
        worsts.aim(to);
        long most = worsts.valueFrom(start, from);
        if (most >= NEVER) {
            return refuse(NO_WAY);
        }
        return answer((int) (most - worsts.valueTold(start, doubt, from)));
    }

    // ---- plans

    public int failing(int plan, int from, int to, int bound) {
        if (!hasPlan(plan) || !areCells(from, to)) {
            return refuse(NONE_SUCH);
        }
        if (bound < 0 || bound > MOST_BOUND) {
            return refuse(BAD_NUMBER);
        }
        return answer(judge.countFailing(plans[plan], from, to, bound));
    }

    public int first(int what) {
        switch (what) {
            case 0:
                return judge.firstTruth;
            case 1:
                return judge.firstWhy;
            case 2:
                return judge.firstMade;
            default:
                return NONE;
        }
    }

    public int costs(int plan, int from, int to) {
        if (!hasPlan(plan) || !areCells(from, to)) {
            return refuse(NONE_SUCH);
        }
        int most = judge.greatestCost(plans[plan], from, to);
        return most == NONE ? refuse(NO_WAY) : answer(most);
    }

    // ---- dug in

    public boolean dig(int wheel, int v) {
        if (wheel < 0 || wheel >= rules.wheels) {
            return deny(NONE_SUCH);
        }
        if (v < 0 || v > MOST_DUG) {
            return deny(BAD_NUMBER);
        }
        digs.setDug(wheel, v);
        return grant();
    }

    public int out() {
        if (!rules.isTold()) {
            return refuse(NONE_SUCH);
        }
        int cost = digs.costOut();
        return cost == NONE ? refuse(NO_WAY) : answer(cost);
    }

    public int tryAt(int i) {
        if (!rules.isTold() || i < 0) {
            return refuse(NONE_SUCH);
        }
        return answer(digs.moveAt(i));
    }

    public int make(int attempt, int wheel) {
        if (attempt < 0 || attempt >= rules.tries || wheel < 0 || wheel >= rules.wheels) {
            return refuse(NONE_SUCH);
        }
        digs.attempt(attempt, wheel);
        return answer(digs.deepest());
    }

    public int count(int what) {
        switch (what) {
            case 0:
                return rules.grounds;
            case 1:
                return rules.tries;
            case 2:
                return rules.wheels;
            case 3:
                return rules.weight;
            case 4:
                return rules.clear;
            case 5:
                return rules.tip;
            case 6:
                return rules.drag;
            case 7:
                return steps.deadWheels;
            case 8:
                return land.cells;
            case 9:
                return land.doubts;
            case 10:
                return land.openDoubts();
            case 11:
                return planCount;
            case 12:
                return digs.deepest();
            case 13:
                return tapeSize;
            default:
                return NONE;
        }
    }

    public int trouble() {
        return refusal;
    }

    private boolean areCells(int from, int to) {
        return land.hasCell(from) && land.hasCell(to);
    }

    private boolean hasPlan(int number) {
        return number >= 0 && number < planCount;
    }

    private int answer(int number) {
        refusal = 0;
        return number;
    }

    private int refuse(int why) {
        refusal = why;
        return NONE;
    }

    private long refuseLong(int why) {
        refusal = why;
        return NO_LONG;
    }

    private boolean grant() {
        refusal = 0;
        return true;
    }

    private boolean deny(int why) {
        refusal = why;
        return false;
    }

    private static long lowestTerms(long over, long under, boolean denominator) {
        long a = over;
        long b = under;
        // Euclid's way takes less than a hundred turns for any two longs.
        for (int turn = 0; turn < 100 && b != 0; turn++) {
            long rest = a % b;
            a = b;
            b = rest;
        }
        if (a <= 0) {
            return denominator ? under : over;
        }
        return (denominator ? under : over) / a;
    }

    /** The tokens of a text, one at a time, and the fault that was met. */
    private static final class Tokens {
        static final int END = 0;
        static final int WORD = 1;
        static final int WHOLE = 2;
        static final int STRANGE = 3;
        static final int OPEN = '(';
        static final int CLOSE = ')';
        static final int COMMA = ',';
        static final int MINUS = '-';
        static final int NEXT = ';';
        static final int MOST_LETTERS = 8;
        static final int MOST_DIGITS = 4;

        final byte[] text;
        int end;
        int at;
        int behind;
        /** One of the constants above; a sign is its own kind. */
        int kind;
        int value;
        /** The letters as digits of base 27, so that names are compared as numbers. */
        long word;
        int fault;
        int place;

        Tokens(byte[] text) {
            this.text = text;
            place = NONE;
        }

        void begin(int n) {
            end = Math.max(0, Math.min(n, text.length));
            behind = 0;
            fault = 0;
            place = NONE;
            advance();
        }

        void advance() {
            at = behind;
            while (at < end && text[at] == ' ') {
                at++;
            }
            behind = at;
            if (at >= end) {
                kind = END;
                return;
            }
            // Bytes above 127 are below 0 here; no token begins with one.
            int first = text[at];
            if (first >= 'a' && first <= 'z') {
                readWord();
            } else if (first >= '0' && first <= '9') {
                readWhole();
            } else {
                kind = isSign(first) ? first : STRANGE;
                behind = at + 1;
            }
        }

        private static boolean isSign(int b) {
            return b == OPEN || b == CLOSE || b == COMMA || b == MINUS || b == NEXT;
        }

        private void readWord() {
            word = 0;
            while (behind < end && text[behind] >= 'a' && text[behind] <= 'z') {
                word = word * 27 + (text[behind] - 'a' + 1);
                behind++;
            }
            kind = behind - at <= MOST_LETTERS ? WORD : STRANGE;
        }

        private void readWhole() {
            value = 0;
            while (behind < end && text[behind] >= '0' && text[behind] <= '9') {
                value = value * 10 + (text[behind] - '0');
                behind++;
            }
            kind = behind - at <= MOST_DIGITS ? WHOLE : STRANGE;
        }

        boolean spells(String letters) {
            if (kind != WORD || behind - at != letters.length()) {
                return false;
            }
            for (int i = 0; i < letters.length(); i++) {
                if (text[at + i] != letters.charAt(i)) {
                    return false;
                }
            }
            return true;
        }

        boolean isName() {
            return kind == WORD && !spells("ground") && !spells("rover") && !spells("try")
                    && !spells("if") && !spells("is") && !spells("else") && wayTold() == NONE;
        }

        int wayTold() {
            if (spells("right")) {
                return 0;
            }
            if (spells("left")) {
                return 1;
            }
            if (spells("up")) {
                return 2;
            }
            return spells("down") ? 3 : NONE;
        }

        boolean take(int wanted) {
            if (kind != wanted) {
                return blame(FORM);
            }
            advance();
            return true;
        }

        boolean takeWord(String letters) {
            if (!spells(letters)) {
                return blame(FORM);
            }
            advance();
            return true;
        }

        /** The whole that stands here, or NONE with a fault. */
        int takeWhole(int least, int most) {
            if (kind != WHOLE) {
                blame(FORM);
                return NONE;
            }
            if (value < least || value > most) {
                blame(BOUNDS);
                return NONE;
            }
            int taken = value;
            advance();
            return taken;
        }

        boolean blame(int number) {
            return blameAt(number, at);
        }

        boolean blameAt(int number, int faultPlace) {
            fault = number;
            place = faultPlace;
            return false;
        }
    }

    /** For each ground a line through up to four points: depth by load, or pull by slip. */
    private static final class Curves {
        final int[] keys = new int[MOST_GROUNDS * MOST_PAIRS];
        final int[] values = new int[MOST_GROUNDS * MOST_PAIRS];
        final int[] pairs = new int[MOST_GROUNDS];

        int valueAt(int g, int key) {
            if (g < 0 || g >= MOST_GROUNDS || pairs[g] < 1) {
                return 0;
            }
            int start = g * MOST_PAIRS;
            int last = start + Math.min(pairs[g], MOST_PAIRS) - 1;
            if (key <= keys[start]) {
                return values[start];
            }
            for (int i = start; i < last; i++) {
                if (key <= keys[i + 1]) {
                    return between(i, key);
                }
            }
            return values[last];
        }

        private int between(int i, int key) {
            int span = keys[i + 1] - keys[i];
            if (span <= 0) {
                return values[i];
            }
            return values[i] + Math.floorDiv((values[i + 1] - values[i]) * (key - keys[i]), span);
        }
    }

    /** What a text told of grounds, rover and tries; without wheels nothing was told. */
    private static final class Book {
        int grounds;
        final long[] groundNames = new long[MOST_GROUNDS];
        final Curves sinks = new Curves();
        final Curves grips = new Curves();
        int tries;
        final long[] tryNames = new long[MOST_TRIES];
        final int[] each = new int[MOST_TRIES];
        final int[] one = new int[MOST_TRIES];
        final int[] price = new int[MOST_TRIES];
        boolean roverTold;
        int wheels;
        int weight;
        int clear;
        int tip;
        int drag;

        void begin() {
            grounds = 0;
            tries = 0;
            roverTold = false;
            wheels = 4;
            weight = 100;
            clear = 100;
            tip = 100;
            drag = 0;
        }

        boolean isTold() {
            return wheels > 0;
        }

        boolean hasGround(int g) {
            return g >= 0 && g < grounds;
        }

        int groundNamed(long name) {
            return indexOf(groundNames, grounds, name);
        }

        int tryNamed(long name) {
            return indexOf(tryNames, tries, name);
        }

        private static int indexOf(long[] names, int size, long name) {
            for (int i = 0; i < size && i < names.length; i++) {
                if (names[i] == name) {
                    return i;
                }
            }
            return NONE;
        }
    }

    private static final class BookReader {
        static final int MOST_TURN = 4;
        static final int NO_INT = -1000;

        final Tokens tokens;

        BookReader(Tokens tokens) {
            this.tokens = tokens;
        }

        boolean read(Book into) {
            into.begin();
            for (int line = 0; line <= TAPE_ROOM; line++) {
                boolean good = false;
                if (tokens.spells("ground")) {
                    good = readGround(into);
                } else if (tokens.spells("rover")) {
                    good = readRover(into);
                } else if (tokens.spells("try")) {
                    good = readTry(into);
                } else {
                    tokens.blame(FORM);
                }
                if (!good || tokens.kind == Tokens.END) {
                    return good;
                }
                if (!tokens.take(Tokens.NEXT)) {
                    return false;
                }
            }
            return tokens.blame(FORM);
        }

        private boolean readGround(Book into) {
            tokens.advance();
            int g = into.grounds;
            boolean again = into.groundNamed(tokens.word) != NONE;
            if (!takeNewName(again, g, into.groundNames)) {
                return false;
            }
            if (!tokens.takeWord("sinks")
                    || !readPairs(into.sinks, g, MOST_LOAD, MOST_DEPTH, true)
                    || !tokens.takeWord("grips")
                    || !readPairs(into.grips, g, MOST_SLIP, MOST_PULL, false)) {
                return false;
            }
            into.grounds = g + 1;
            return true;
        }

        private boolean takeNewName(boolean again, int size, long[] names) {
            if (!tokens.isName()) {
                return tokens.blame(FORM);
            }
            if (again) {
                return tokens.blame(AGAIN);
            }
            if (size >= names.length) {
                return tokens.blame(MANY);
            }
            names[size] = tokens.word;
            tokens.advance();
            return true;
        }

        private boolean readPairs(Curves into, int g, int mostKey, int mostValue, boolean rising) {
            int lastKey = NONE;
            int lastValue = 0;
            for (int i = 0; i <= MOST_PAIRS; i++) {
                int keyPlace = tokens.at;
                lastKey = tokens.takeWhole(lastKey + 1, mostKey);
                if (lastKey == NONE) {
                    return false;
                }
                // Behind the bounds, as of one place the least fault counts.
                if (i == MOST_PAIRS) {
                    return tokens.blameAt(MANY, keyPlace);
                }
                lastValue = tokens.takeWhole(rising ? lastValue : 0, mostValue);
                if (lastValue == NONE) {
                    return false;
                }
                into.keys[g * MOST_PAIRS + i] = lastKey;
                into.values[g * MOST_PAIRS + i] = lastValue;
                into.pairs[g] = i + 1;
                if (tokens.kind != Tokens.COMMA) {
                    return true;
                }
                tokens.advance();
            }
            return tokens.blame(MANY);
        }

        private boolean readRover(Book into) {
            if (into.roverTold) {
                return tokens.blame(AGAIN);
            }
            tokens.advance();
            into.roverTold = true;
            into.wheels = takeTold("wheels", 2, MOST_WHEELS);
            if (into.wheels == NONE) {
                return false;
            }
            into.weight = takeTold("weight", 1, 999);
            if (into.weight == NONE) {
                return false;
            }
            into.clear = takeTold("clear", 1, 300);
            if (into.clear == NONE) {
                return false;
            }
            into.tip = takeTold("tip", 0, 300);
            if (into.tip == NONE) {
                return false;
            }
            into.drag = takeTold("drag", 0, 99);
            return into.drag != NONE;
        }

        private int takeTold(String letters, int least, int most) {
            return tokens.takeWord(letters) ? tokens.takeWhole(least, most) : NONE;
        }

        private boolean readTry(Book into) {
            tokens.advance();
            int t = into.tries;
            boolean again = into.tryNamed(tokens.word) != NONE;
            if (!takeNewName(again, t, into.tryNames)) {
                return false;
            }
            into.each[t] = takeTurn("each");
            if (into.each[t] == NO_INT) {
                return false;
            }
            into.one[t] = takeTurn("one");
            if (into.one[t] == NO_INT) {
                return false;
            }
            into.price[t] = takeTold("cost", 1, 99);
            if (into.price[t] == NONE) {
                return false;
            }
            into.tries = t + 1;
            return true;
        }

        private int takeTurn(String letters) {
            if (!tokens.takeWord(letters)) {
                return NO_INT;
            }
            int signPlace = tokens.at;
            boolean minus = tokens.kind == Tokens.MINUS;
            if (minus) {
                tokens.advance();
            }
            int size = tokens.takeWhole(0, MOST_TURN);
            if (size == NONE) {
                if (tokens.fault == BOUNDS) {
                    tokens.blameAt(BOUNDS, signPlace);
                }
                return NO_INT;
            }
            return minus ? -size : size;
        }
    }

    /** A plan as a row of orders; an order leads only to later ones. */
    private static final class Plan {
        static final int IF = 4;
        static final int JUMP = 5;
        /** Each step is one order, and each else one more. */
        static final int ROOM = 2 * MOST_STEPS;

        final int[] kinds = new int[ROOM];
        /** How often a step is made, or the doubt that an if asks for. */
        final int[] numbers = new int[ROOM];
        final int[] grounds = new int[ROOM];
        final int[] targets = new int[ROOM];
        int size;
        int stepsTold;

        void begin() {
            size = 0;
            stepsTold = 0;
        }

        /** Its place, or NONE without room. */
        int add(int kind, int number, int g) {
            if (size >= ROOM) {
                return NONE;
            }
            kinds[size] = kind;
            numbers[size] = number;
            grounds[size] = g;
            targets[size] = size + 1;
            size++;
            return size - 1;
        }

        void leadHere(int order) {
            if (order >= 0 && order < ROOM) {
                targets[order] = size;
            }
        }
    }

    private static final class PlanReader {
        static final int MOST_TIMES = 9;

        final Tokens tokens;
        private Plan into;
        private Book rules;
        private int doubts;

        PlanReader(Tokens tokens) {
            this.tokens = tokens;
        }

        boolean read(Plan plan, Book book, int doubtCount) {
            into = plan;
            rules = book;
            doubts = doubtCount;
            into.begin();
            return readSteps(0) && (tokens.kind == Tokens.END || tokens.blame(FORM));
        }

        private boolean readSteps(int depth) {
            for (int i = 0; i <= MOST_STEPS; i++) {
                if (!readOne(depth)) {
                    return false;
                }
                if (tokens.kind != Tokens.NEXT) {
                    return true;
                }
                tokens.advance();
            }
            return tokens.blame(MANY);
        }

        private boolean readOne(int depth) {
            int told = tokens.wayTold();
            if (told == NONE && !tokens.spells("if")) {
                return tokens.blame(FORM);
            }
            if (into.stepsTold >= MOST_STEPS) {
                return tokens.blame(MANY);
            }
            into.stepsTold++;
            tokens.advance();
            return told == NONE ? readIf(depth) : readMove(told);
        }

        private boolean readMove(int told) {
            int times = 1;
            if (tokens.kind == Tokens.WHOLE) {
                times = tokens.takeWhole(1, MOST_TIMES);
                if (times == NONE) {
                    return false;
                }
            }
            return into.add(told, times, NONE) != NONE || tokens.blame(MANY);
        }

        private boolean readIf(int depth) {
            int order = readQuestion();
            if (order == NONE || !readBlock(depth)) {
                return false;
            }
            if (!tokens.spells("else")) {
                into.leadHere(order);
                return true;
            }
            tokens.advance();
            int jump = into.add(Plan.JUMP, 0, NONE);
            into.leadHere(order);
            if (!readBlock(depth)) {
                return false;
            }
            into.leadHere(jump);
            return true;
        }

        /** The place of the if among the orders, or NONE with a fault. */
        private int readQuestion() {
            if (tokens.kind != Tokens.WHOLE) {
                tokens.blame(FORM);
                return NONE;
            }
            int asked = tokens.value;
            if (asked >= doubts) {
                tokens.blame(UNKNOWN);
                return NONE;
            }
            tokens.advance();
            if (!tokens.takeWord("is")) {
                return NONE;
            }
            if (!tokens.isName()) {
                tokens.blame(FORM);
                return NONE;
            }
            int g = rules.groundNamed(tokens.word);
            if (g == NONE) {
                tokens.blame(UNKNOWN);
                return NONE;
            }
            tokens.advance();
            return into.add(Plan.IF, asked, g);
        }

        private boolean readBlock(int depth) {
            if (tokens.kind != Tokens.OPEN) {
                return tokens.blame(FORM);
            }
            if (depth >= MOST_OPEN) {
                return tokens.blame(MANY);
            }
            tokens.advance();
            return readSteps(depth + 1) && tokens.take(Tokens.CLOSE);
        }
    }

    /**
     * The map. What is known of all doubts together is one number, a state, with two bits
     * for each doubt: 0 while it is open, else 1 and the place of its ground among those of
     * weight above 0. So to see more only sets bits.
     */
    private static final class Land {
        static final int LOW_BITS = 0x155;

        int wide;
        int high;
        int cells;
        int doubts;
        /** Goes up with every change by which costs or weights may change. */
        int age;
        final int[] heights = new int[MOST_CELLS];
        final int[] grounds = new int[MOST_CELLS];
        final int[] doubtOf = new int[MOST_CELLS];
        /** Both bits of each doubt that is seen from a cell. */
        final int[] sight = new int[MOST_CELLS];
        final int[] beside = new int[MOST_CELLS * WAYS];
        final int[] known = new int[MOST_DOUBTS];
        final int[] weights = new int[MOST_DOUBTS * MOST_GROUNDS];
        /** The grounds of weight above 0 of each doubt, upwards. */
        final int[] choices = new int[MOST_DOUBTS * MOST_CHOICES];
        final int[] choiceCount = new int[MOST_DOUBTS];
        final int[] totals = new int[MOST_DOUBTS];

        void clear() {
            wide = 0;
            high = 0;
            cells = 0;
            doubts = 0;
            age++;
        }

        void lay(int newWide, int newHigh) {
            wide = newWide;
            high = newHigh;
            cells = newWide * newHigh;
            doubts = 0;
            age++;
            Arrays.fill(heights, 0);
            Arrays.fill(grounds, 0);
            Arrays.fill(doubtOf, NONE);
            Arrays.fill(sight, 0);
            for (int y = 0; y < high; y++) {
                for (int x = 0; x < wide; x++) {
                    linkCell(x, y);
                }
            }
        }

        private void linkCell(int x, int y) {
            int cell = y * wide + x;
            beside[cell * WAYS] = x + 1 < wide ? cell + 1 : NONE;
            beside[cell * WAYS + 1] = x > 0 ? cell - 1 : NONE;
            beside[cell * WAYS + 2] = y > 0 ? cell - wide : NONE;
            beside[cell * WAYS + 3] = y + 1 < high ? cell + wide : NONE;
        }

        boolean hasCell(int cell) {
            return cell >= 0 && cell < cells;
        }

        boolean hasDoubt(int d) {
            return d >= 0 && d < doubts;
        }

        int addDoubt(int cell) {
            int d = doubts;
            doubts++;
            doubtOf[cell] = d;
            known[d] = NONE;
            for (int g = 0; g < MOST_GROUNDS; g++) {
                weights[d * MOST_GROUNDS + g] = g == grounds[cell] ? 1 : 0;
            }
            int bits = 3 << (2 * d);
            sight[cell] |= bits;
            for (int way = 0; way < WAYS; way++) {
                int next = beside[cell * WAYS + way];
                if (next >= 0) {
                    sight[next] |= bits;
                }
            }
            listChoices(d);
            return d;
        }

        int weightOf(int d, int g) {
            return weights[d * MOST_GROUNDS + g];
        }

        boolean maySetWeight(int d, int g, int weight) {
            int others = choiceCount[d] - (weightOf(d, g) > 0 ? 1 : 0);
            if (weight > 0) {
                return others < MOST_CHOICES;
            }
            return others > 0 && known[d] != g;
        }

        void setWeight(int d, int g, int weight) {
            weights[d * MOST_GROUNDS + g] = weight;
            listChoices(d);
        }

        private void listChoices(int d) {
            int size = 0;
            int total = 0;
            for (int g = 0; g < MOST_GROUNDS; g++) {
                int weight = weightOf(d, g);
                if (weight > 0 && size < MOST_CHOICES) {
                    choices[d * MOST_CHOICES + size] = g;
                    size++;
                    total += weight;
                }
            }
            choiceCount[d] = size;
            totals[d] = total;
            age++;
        }

        int openDoubts() {
            int size = 0;
            for (int d = 0; d < doubts; d++) {
                if (known[d] == NONE) {
                    size++;
                }
            }
            return size;
        }

        int truthCount() {
            if (cells == 0) {
                return 0;
            }
            int size = 1;
            for (int d = 0; d < doubts; d++) {
                if (known[d] == NONE) {
                    size *= choiceCount[d];
                }
            }
            return size;
        }

        int startState() {
            int state = 0;
            for (int d = 0; d < doubts; d++) {
                state |= knownBits(d);
            }
            return state;
        }

        private int knownBits(int d) {
            for (int i = 0; i < choiceCount[d]; i++) {
                if (choices[d * MOST_CHOICES + i] == known[d]) {
                    return stateBits(d, i);
                }
            }
            return 0;
        }

        int stateBits(int d, int choice) {
            return (choice + 1) << (2 * d);
        }

        int stateOfTruth(int number) {
            int state = startState();
            int rest = number;
            for (int d = doubts - 1; d >= 0; d--) {
                if (known[d] == NONE && choiceCount[d] > 0) {
                    state |= stateBits(d, rest % choiceCount[d]);
                    rest /= choiceCount[d];
                }
            }
            return state;
        }

        /** The place of a doubt's ground among its choices, or NONE while it is open. */
        int choiceIn(int state, int d) {
            return ((state >> (2 * d)) & 3) - 1;
        }

        int groundIn(int state, int d) {
            int choice = choiceIn(state, d);
            return choice < 0 ? NONE : choices[d * MOST_CHOICES + choice];
        }

        /** Both bits of each doubt that is open in a state. */
        int unseen(int state) {
            int seen = (state | (state >> 1)) & LOW_BITS;
            return (LOW_BITS & ~seen) * 3;
        }

        /** The product of the weights, all together, of doubts that are open in a state. */
        long totalWeight(int state) {
            long product = 1;
            for (int d = 0; d < doubts; d++) {
                if (choiceIn(state, d) < 0) {
                    product *= totals[d];
                }
            }
            return product;
        }

        int firstUnseen(int state, int cell) {
            int bits = sight[cell] & unseen(state);
            for (int d = 0; d < doubts && bits != 0; d++) {
                if (((bits >> (2 * d)) & 3) != 0) {
                    return d;
                }
            }
            return NONE;
        }
    }

    /** What steps need, slip and cost. */
    private static final class Steps {
        static final int PULLS = MOST_PULL + 1;

        final Land land;
        private Book rules;
        int deadWheels;
        private int load;
        private final int[] sinkOf = new int[MOST_GROUNDS];
        /** For each ground and pull the least slip that has it, or NONE. */
        private final int[] slipFor = new int[MOST_GROUNDS * PULLS];
        int why;
        int need;
        int slip;
        int cost;
        /** The cost of a step by cell and way onto a cell without doubt; below 0: why not. */
        private final int[] plain = new int[MOST_CELLS * WAYS];
        /** Likewise onto the cell of a doubt, by doubt, choice and way. */
        private final int[] doubtful = new int[MOST_DOUBTS * MOST_CHOICES * WAYS];
        private int age;

        Steps(Land land, Book rules) {
            this.land = land;
            this.rules = rules;
            age = NONE;
        }

        void learn(Book book) {
            rules = book;
            deadWheels = 0;
            load = book.wheels > 0 ? book.weight / book.wheels : 0;
            for (int g = 0; g < book.grounds; g++) {
                sinkOf[g] = book.sinks.valueAt(g, load);
                listSlips(g);
            }
        }

        private void listSlips(int g) {
            int base = g * PULLS;
            int reached = 0;
            for (int s = 0; s <= MOST_SLIP; s++) {
                int pull = Math.min(rules.grips.valueAt(g, s), MOST_PULL);
                for (; reached <= pull; reached++) {
                    slipFor[base + reached] = s;
                }
            }
            for (; reached < PULLS; reached++) {
                slipFor[base + reached] = NONE;
            }
        }

        void measure(int cell, int way, int g) {
            int next = land.beside[cell * WAYS + way];
            if (next < 0) {
                cannot(OFF_MAP);
                return;
            }
            int rise = land.heights[next] - land.heights[cell];
            if (Math.abs(rise) > rules.tip) {
                cannot(TOO_STEEP);
                return;
            }
            if (sinkOf[g] > rules.clear) {
                cannot(TOO_DEEP);
                return;
            }
            int climb = Math.floorDiv(rules.weight * (rise + sinkOf[g]), 10);
            need = Math.max(0, climb + deadWheels * load * rules.drag);
            slip = leastSlip(g);
            if (slip < 0 || slip > MOST_SLIP) {
                cannot(NO_HOLD);
                return;
            }
            why = 0;
            cost = (1000 + need) / (100 - slip) + 1;
        }

        private void cannot(int reason) {
            why = reason;
            need = UNTOLD;
            slip = UNTOLD;
            cost = UNTOLD;
        }

        private int leastSlip(int g) {
            if (need == 0) {
                return 0;
            }
            int holdOfOne = load * (rules.wheels - deadWheels);
            if (holdOfOne <= 0) {
                return NONE;
            }
            int pull = (need + holdOfOne - 1) / holdOfOne;
            return pull > MOST_PULL ? NONE : slipFor[g * PULLS + pull];
        }

        /** Costs are kept until the land changes, as ways ask for them again and again. */
        void prepare() {
            if (age == land.age) {
                return;
            }
            age = land.age;
            for (int cell = 0; cell < land.cells; cell++) {
                for (int way = 0; way < WAYS; way++) {
                    prepareStep(cell, way);
                }
            }
        }

        private void prepareStep(int cell, int way) {
            int next = land.beside[cell * WAYS + way];
            if (next < 0) {
                plain[cell * WAYS + way] = -OFF_MAP;
                return;
            }
            int d = land.doubtOf[next];
            if (d == NONE) {
                plain[cell * WAYS + way] = tollOf(cell, way, land.grounds[next]);
                return;
            }
            for (int i = 0; i < land.choiceCount[d]; i++) {
                int g = land.choices[d * MOST_CHOICES + i];
                doubtful[(d * MOST_CHOICES + i) * WAYS + way] = tollOf(cell, way, g);
            }
        }

        private int tollOf(int cell, int way, int g) {
            measure(cell, way, g);
            return why == 0 ? cost : -why;
        }

        /** The cost of a step in a state, below 0 why it can't be; 0 if its ground is open. */
        int toll(int cell, int way, int state) {
            int next = land.beside[cell * WAYS + way];
            int d = next < 0 ? NONE : land.doubtOf[next];
            if (d == NONE) {
                return plain[cell * WAYS + way];
            }
            int choice = land.choiceIn(state, d);
            return choice < 0 ? 0 : doubtful[(d * MOST_CHOICES + choice) * WAYS + way];
        }
    }

    /**
     * The best that can be had from each cell in each state, to one goal. Values by mean are
     * kept times the weight of all that is open in the state, so that they are whole.
     */
    private static final class Ways {
        static final int STATES = 1 << (2 * MOST_DOUBTS);
        static final int MOST_VALUES = STATES * MOST_CELLS;
        /** Far above what five doubts, each seen once on the way down, can need. */
        static final int DEEPEST = 40;

        final Land land;
        final Steps steps;
        final boolean byMean;
        int followed;
        private int goal;
        private int age;
        private long[] values;
        private final int[] stamps = new int[STATES];
        private int stamp;
        private final int[] heap = new int[MOST_CELLS];
        private final int[] slot = new int[MOST_CELLS];
        private int heapSize;
        private int row;

        Ways(Land land, Steps steps, boolean byMean) {
            this.land = land;
            this.steps = steps;
            this.byMean = byMean;
            goal = NONE;
            age = NONE;
            values = new long[0];
        }

        /** What was found for the same goal on the same land is kept. */
        void aim(int to) {
            steps.prepare();
            boolean same = goal == to && age == land.age;
            int size = land.cells << (2 * land.doubts);
            if (values.length < size) {
                // Twice the old room at least, so that many small growths stay cheap.
                int wish = Math.max(size, 2 * values.length);
                values = new long[Math.min(wish, MOST_VALUES)];
                same = false;
            }
            if (!same) {
                goal = to;
                age = land.age;
                stamp++;
            }
        }

        long valueFrom(int state, int cell) {
            return valueSeeing(state, cell, 0);
        }

        /** As if an open doubt were known at once: by each of its grounds, taken together. */
        long valueTold(int state, int d, int cell) {
            long sum = 0;
            for (int i = 0; i < land.choiceCount[d]; i++) {
                sum = together(sum, valueSeeing(state | land.stateBits(d, i), cell, 0), d, i);
            }
            return sum;
        }

        private long together(long sum, long value, int d, int choice) {
            if (sum >= NEVER || value >= NEVER) {
                return NEVER;
            }
            if (!byMean) {
                return Math.max(sum, value);
            }
            return sum + value * land.weightOf(d, land.choices[d * MOST_CHOICES + choice]);
        }

        private long valueSeeing(int state, int cell, int depth) {
            if (cell == goal) {
                return 0;
            }
            if (depth > DEEPEST) {
                return NEVER;
            }
            int d = land.firstUnseen(state, cell);
            if (d == NONE) {
                settle(state, depth + 1);
                return values[state * land.cells + cell];
            }
            long sum = 0;
            for (int i = 0; i < land.choiceCount[d] && sum < NEVER; i++) {
                long value = valueSeeing(state | land.stateBits(d, i), cell, depth + 1);
                sum = together(sum, value, d, i);
            }
            return sum;
        }

        /** From cells where more is seen their values go backwards to where nothing is. */
        private void settle(int state, int depth) {
            if (stamps[state] == stamp) {
                return;
            }
            int base = state * land.cells;
            int unseen = land.unseen(state);
            for (int cell = 0; cell < land.cells; cell++) {
                boolean sees = cell == goal || (land.sight[cell] & unseen) != 0;
                values[base + cell] = sees ? valueSeeing(state, cell, depth + 1) : NEVER;
            }
            row = base;
            heapSize = 0;
            for (int cell = 0; cell < land.cells; cell++) {
                slot[cell] = NONE;
                if (values[base + cell] < NEVER) {
                    lift(cell);
                }
            }
            spread(state, unseen);
            stamps[state] = stamp;
        }

        private void spread(int state, int unseen) {
            long scale = byMean ? land.totalWeight(state) : 1;
            for (int turn = 0; turn < land.cells && heapSize > 0; turn++) {
                int cell = takeLeast();
                for (int back = 0; back < WAYS; back++) {
                    int before = land.beside[cell * WAYS + back];
                    if (before >= 0 && before != goal && (land.sight[before] & unseen) == 0) {
                        // 0 and 1, 2 and 3 are each other's way back.
                        int toll = steps.toll(before, back ^ 1, state);
                        offer(before, values[row + cell] + scale * toll, toll > 0);
                    }
                }
            }
        }

        private void offer(int cell, long value, boolean can) {
            if (can && value < values[row + cell]) {
                values[row + cell] = value;
                lift(cell);
            }
        }

        private void lift(int cell) {
            int i = slot[cell];
            if (i < 0) {
                i = heapSize;
                heapSize++;
            }
            long value = values[row + cell];
            for (int turn = 0; turn < MOST_CELLS && i > 0; turn++) {
                int above = (i - 1) / 2;
                if (values[row + heap[above]] <= value) {
                    break;
                }
                put(i, heap[above]);
                i = above;
            }
            put(i, cell);
        }

        private void put(int i, int cell) {
            heap[i] = cell;
            slot[cell] = i;
        }

        private int takeLeast() {
            int least = heap[0];
            heapSize--;
            int moved = heap[heapSize];
            long value = values[row + moved];
            int i = 0;
            for (int turn = 0; turn < MOST_CELLS; turn++) {
                int below = 2 * i + 1;
                if (below >= heapSize) {
                    break;
                }
                if (below + 1 < heapSize
                        && values[row + heap[below + 1]] < values[row + heap[below]]) {
                    below++;
                }
                if (value <= values[row + heap[below]]) {
                    break;
                }
                put(i, heap[below]);
                i = below;
            }
            put(i, moved);
            return least;
        }

        /** The way of least number whose step leads on best, or NONE; all seen there is told. */
        int bestFrom(int state, int cell) {
            settle(state, 0);
            long scale = byMean ? land.totalWeight(state) : 1;
            long least = NEVER;
            int best = NONE;
            for (int way = 0; way < WAYS; way++) {
                int toll = steps.toll(cell, way, state);
                int next = land.beside[cell * WAYS + way];
                if (toll > 0 && next >= 0) {
                    long value = values[state * land.cells + next] + scale * toll;
                    if (value < least) {
                        least = value;
                        best = way;
                    }
                }
            }
            return best;
        }

        /** The cost from a cell to the goal if a truth holds; its cells as far as a row has room. */
        int follow(int from, int start, int truth, int[] cells) {
            int cell = from;
            int state = start | (truth & land.sight[cell]);
            int cost = 0;
            followed = 0;
            for (int turn = 0; turn < TRAIL_ROOM; turn++) {
                if (turn < cells.length) {
                    cells[turn] = cell;
                    followed = turn + 1;
                }
                int way = cell == goal ? NONE : bestFrom(state, cell);
                if (way == NONE) {
                    break;
                }
                cost += steps.toll(cell, way, state);
                cell = land.beside[cell * WAYS + way];
                state |= truth & land.sight[cell];
            }
            return cost;
        }
    }

    /** Goes by plans in truths. */
    private static final class Judge {
        final Land land;
        final Steps steps;
        int firstTruth;
        int firstWhy;
        int firstMade;
        private int cell;
        private int state;
        private int truth;
        private int made;
        private int cost;

        Judge(Land land, Steps steps) {
            this.land = land;
            this.steps = steps;
            firstTruth = NONE;
            firstWhy = NONE;
            firstMade = NONE;
        }

        int countFailing(Plan plan, int from, int to, int bound) {
            steps.prepare();
            firstTruth = UNTOLD;
            firstWhy = UNTOLD;
            firstMade = UNTOLD;
            int failing = 0;
            int truths = land.truthCount();
            for (int number = 0; number < truths; number++) {
                int why = whyNot(plan, from, to, number);
                if (why == 0 && cost > bound) {
                    why = TOO_DEAR;
                }
                if (why != 0) {
                    failing++;
                }
                if (why != 0 && failing == 1) {
                    firstTruth = number;
                    firstWhy = why;
                    firstMade = made;
                }
            }
            return failing;
        }

        /** NONE if the plan fails in some truth. */
        int greatestCost(Plan plan, int from, int to) {
            steps.prepare();
            int most = 0;
            int truths = land.truthCount();
            for (int number = 0; number < truths; number++) {
                if (whyNot(plan, from, to, number) != 0) {
                    return NONE;
                }
                most = Math.max(most, cost);
            }
            return most;
        }

        private int whyNot(Plan plan, int from, int to, int number) {
            truth = land.stateOfTruth(number);
            cell = from;
            state = land.startState() | (truth & land.sight[from]);
            made = 0;
            cost = 0;
            int order = 0;
            // Orders lead only to later ones, so there are no more turns than orders.
            for (int turn = 0; turn < Plan.ROOM && order < plan.size; turn++) {
                int kind = plan.kinds[order];
                int next = order + 1;
                if (kind == Plan.JUMP) {
                    next = plan.targets[order];
                } else if (kind == Plan.IF) {
                    int found = land.groundIn(state, plan.numbers[order]);
                    if (found == NONE) {
                        return BLIND_IF;
                    }
                    next = found == plan.grounds[order] ? next : plan.targets[order];
                } else {
                    int why = moveBy(kind, plan.numbers[order]);
                    if (why != 0) {
                        return why;
                    }
                }
                order = next;
            }
            return cell == to ? 0 : ASTRAY;
        }

        private int moveBy(int way, int times) {
            for (int i = 0; i < times; i++) {
                int next = land.beside[cell * WAYS + way];
                if (next < 0) {
                    return OFF_MAP;
                }
                int toll = steps.toll(cell, way, state);
                if (toll <= 0) {
                    return -toll;
                }
                cost += toll;
                made++;
                cell = next;
                state |= truth & land.sight[cell];
            }
            return 0;
        }
    }

    /**
     * Wheels dug in. What is left to pay hangs only on how many wheels are at each depth, as
     * a try may be made at any wheel; so such counts, not wheels, are what is searched.
     */
    private static final class Digs {
        static final int DEPTHS = MOST_DUG + 1;
        static final int CODES = 7 * 7 * 7 * 7;
        static final int MOST_COUNTS = 210;
        static final int MOVES = MOST_TRIES * DEPTHS;
        /** A cost counts so many times as much as one try more. */
        static final int COST_UNIT = 1024;
        static final int FAR = 1 << 29;
        private static final int[] UNITS = {0, 1, 7, 49, 343};

        private Book rules;
        private final int[] dug = new int[MOST_WHEELS];
        private final int[] now = new int[MOST_WHEELS];
        private final int[] held = new int[DEPTHS];
        private boolean surveyed;
        private int counts;
        private int[] numberOf;
        private int[] codes;
        private int[] after;
        private int[] left;
        private boolean plotted;
        private int[] path;
        private int pathSize;

        Digs(Book rules) {
            this.rules = rules;
            numberOf = new int[0];
            codes = new int[0];
            after = new int[0];
            left = new int[0];
            path = new int[0];
        }

        void learn(Book book) {
            rules = book;
            Arrays.fill(dug, 0);
            surveyed = false;
            plotted = false;
        }

        void setDug(int wheel, int v) {
            dug[wheel] = v;
            plotted = false;
        }

        void attempt(int t, int wheel) {
            move(dug, t, wheel);
            plotted = false;
        }

        int deepest() {
            int most = 0;
            for (int w = 0; w < MOST_WHEELS; w++) {
                most = Math.max(most, dug[w]);
            }
            return most;
        }

        private void move(int[] wheels, int t, int wheel) {
            for (int w = 0; w < rules.wheels; w++) {
                int more = w == wheel ? rules.one[t] : rules.each[t];
                wheels[w] = within(wheels[w] + more);
            }
        }

        private static int within(int depth) {
            return Math.max(0, Math.min(MOST_DUG, depth));
        }

        /** NONE if there is no way out. */
        int costOut() {
            survey();
            int due = left[numberOf[codeOf(dug)]];
            return due >= FAR ? NONE : due / COST_UNIT;
        }

        int moveAt(int i) {
            plot();
            return i >= 0 && i < pathSize ? path[i] : UNTOLD;
        }

        private int codeOf(int[] wheels) {
            int code = 0;
            for (int w = 0; w < rules.wheels; w++) {
                code += UNITS[wheels[w]];
            }
            return code;
        }

        private void plot() {
            if (plotted) {
                return;
            }
            survey();
            plotted = true;
            pathSize = 0;
            System.arraycopy(dug, 0, now, 0, MOST_WHEELS);
            int number = numberOf[codeOf(now)];
            if (left[number] >= FAR) {
                return;
            }
            for (int turn = 0; turn < MOST_COUNTS && left[number] > 0; turn++) {
                int chosen = leastMove(number);
                if (chosen < 0) {
                    return;
                }
                path[pathSize] = chosen;
                pathSize++;
                move(now, chosen / 10, chosen % 10);
                number = numberOf[codeOf(now)];
            }
        }

        /** The least move by which what is left becomes less by no more than it costs. */
        private int leastMove(int number) {
            for (int t = 0; t < rules.tries; t++) {
                for (int w = 0; w < rules.wheels; w++) {
                    int next = after[number * MOVES + t * DEPTHS + now[w]];
                    if (next >= 0 && left[next] + priceOf(t) == left[number]) {
                        return 10 * t + w;
                    }
                }
            }
            return NONE;
        }

        private int priceOf(int t) {
            return rules.price[t] * COST_UNIT + 1;
        }

        private void survey() {
            if (surveyed) {
                return;
            }
            surveyed = true;
            if (path.length == 0) {
                numberOf = new int[CODES];
                codes = new int[MOST_COUNTS];
                after = new int[MOST_COUNTS * MOVES];
                left = new int[MOST_COUNTS];
                path = new int[MOST_COUNTS];
            }
            listCounts();
            for (int number = 0; number < counts; number++) {
                listMoves(number);
            }
            Arrays.fill(left, FAR);
            left[0] = 0;
            for (int round = 0; round < MOST_COUNTS; round++) {
                if (!lessen()) {
                    break;
                }
            }
        }

        private void listCounts() {
            counts = 0;
            for (int code = 0; code < CODES; code++) {
                int wheels = 0;
                for (int depth = 1; depth < DEPTHS; depth++) {
                    wheels += heldAt(code, depth);
                }
                boolean can = wheels <= rules.wheels && counts < MOST_COUNTS;
                numberOf[code] = can ? counts : 0;
                if (can) {
                    codes[counts] = code;
                    counts++;
                }
            }
        }

        private static int heldAt(int code, int depth) {
            int unit = UNITS[depth];
            return unit > 0 ? code / unit % 7 : 0;
        }

        private void listMoves(int number) {
            int rest = rules.wheels;
            for (int depth = 1; depth < DEPTHS; depth++) {
                held[depth] = heldAt(codes[number], depth);
                rest -= held[depth];
            }
            held[0] = rest;
            for (int t = 0; t < rules.tries; t++) {
                for (int depth = 0; depth < DEPTHS; depth++) {
                    int next = held[depth] > 0 ? numberOf[codeAfter(t, depth)] : NONE;
                    after[number * MOVES + t * DEPTHS + depth] = next;
                }
            }
        }

        private int codeAfter(int t, int chosen) {
            int code = UNITS[within(chosen + rules.one[t])];
            for (int depth = 0; depth < DEPTHS; depth++) {
                int wheels = depth == chosen ? held[depth] - 1 : held[depth];
                code += wheels * UNITS[within(depth + rules.each[t])];
            }
            return code;
        }

        private boolean lessen() {
            boolean less = false;
            for (int number = 1; number < counts; number++) {
                for (int t = 0; t < rules.tries; t++) {
                    for (int depth = 0; depth < DEPTHS; depth++) {
                        int next = after[number * MOVES + t * DEPTHS + depth];
                        if (next >= 0 && left[next] + priceOf(t) < left[number]) {
                            left[number] = left[next] + priceOf(t);
                            less = true;
                        }
                    }
                }
            }
            return less;
        }
    }
}
