// Each call with the last numbers that are taken and the first that are refused, in all combinations: of several
// refusals the first one told is answered, a refused call changes nothing, nor does what is only asked.
public final class RefusalsTest {
  private static final int MIN = Due.MIN, MAX = Due.MAX;
  private static final int NONE_BROKEN = 0;
  private static final long NO = Due.NO;

  // ---- the states in which each call is tried

  private static final int EMPTY = 0, SOME = 1, FULL = 2, TAPE = 3;
  private static final String[] STATES = {"nobody", "some", "full", "a full tape"};
  private static final int[] PEOPLE = {0, 5, 8, 1};
  private static final int[] SAVED = {0, 1 | 2 | 4 | 8, 255, 0};
  private static final int[] TEXTS = {1, 3, 6, 1};
  private static final int[] BYTES = {0, 8, 160, 160};
  private static final boolean[] IMAGE = {false, true, true, false};
  private static final int[][] SORTS = {{-1, -1, -1, -1}, {2, -1, 0, 1}, {2, 1, 0, -1}, {-1, -1, -1, 2}};
  private static final int[][] SIZES = {{0, 0, 0, 0}, {3, 0, 3, 5}, {8, 40, 9, 0}, {0, 0, 0, 0}};
  /** Whether a sheet tells a ladder. */
  private static final boolean[][] ROWS = {{false, false, false, false}, {true, false, false, false},
      {true, false, false, false}, {false, false, false, true}};
  private static final int[] KINDS = {3, 4, 5, 1, 2, 0, 3, 4};

  private static LadderOfRescued make(int state) {
    LadderOfRescued x = Due.anew();
    if (state == SOME) some(x);
    if (state == FULL) full(x);
    if (state == TAPE) {
      Due.who(x, KINDS[0], 5, 50, 60);
      Due.feed(x, String.format("%-160s", "tall 42;bears 43;comes 44;"));
      x.sheet(3, 2, 0);
    }
    return x;
  }
  private static void some(LadderOfRescued x) {
    for (int p = 0; p < 2; p++) Due.who(x, KINDS[p], p + 1, 20 + p, 200 + p);
    x.door(1); x.feud(0, 1, 1); x.winters(3);
    x.image();
    Due.read(x, "tall height + 1;bears strong;comes 7;");
    Due.read(x, "tall 9;bears more;comes rust;");
    for (int p = 2; p < 5; p++) Due.who(x, KINDS[p], p + 1, 20 + p, 200 + p);
    x.put(0, 0, 33); x.feud(0, 1, 0); x.feud(2, 4, 1); x.winters(7); x.force(1);
    Due.door(x, 2, 0, 3);
    Due.feed(x, "tall 12+");
    Due.ints(x, 0, 2, 0, 3); Due.row(x, 2, 0, 0, 9, 0); Due.row(x, 3, 1, 3, 1, 4, 1, 5);
  }
  private static void full(LadderOfRescued x) {
    for (int p = 0; p < 3; p++) Due.who(x, KINDS[p], p, 30 + p, 300 + p);
    Due.door(x, 2, 1);
    x.image();
    for (int p = 3; p < 8; p++) Due.who(x, KINDS[p], p, 30 + p, 300 + p);
    Due.door(x, 7, 6, 0, 5, 4, 3);
    for (int t = 1; t < 6; t++) Due.read(x, "tall " + t + ";bears 9;comes 60;");
    x.winters(999); x.force(5); x.feud(7, 0, 1);
    Due.feed(x, String.format("%-160s", "tall"));
    Due.ints(x, 0, 7, 6, 5, 4, 3, 2, 1, 0);
    int[] many = new int[40];
    for (int i = 0; i < 40; i++) many[i] = i + 1;
    Due.row(x, 1, 1, many);
    Due.row(x, 2, 0, 9, 8, 7, 6, 5, 4, 3, 2, 1);
  }

  // ---- all that can be asked of an object, as one number

  private static long mixed;
  private static void mix(long v) { mixed = (mixed ^ v) * 1099511628211L + 17; }

  private static void mixPeople(LadderOfRescued x) {
    for (int what = 0; what < 6; what++) mix(x.count(what));
    for (int p = 0; p < 8; p++) for (int what = 0; what < 6; what++) mix(x.told(p, what));
  }
  /** People, the tape, the texts, the image. */
  private static long state(LadderOfRescued x) {
    mixed = 1;
    mixPeople(x);
    if (x.count(3) < 6) {
      if (x.count(5) < 100) Due.feed(x, "7;bears rust;comes 3;");
      mix(x.text());
    }
    mix(x.person(37, 45678));
    for (int t = 0; t < x.count(3); t++) { x.force(t); for (int part = 0; part < 3; part++) mix(x.asks(part, 0, 3)); }
    mix(x.back());
    mixPeople(x);
    return mixed;
  }
  /** The sheets: their sorts, sizes and numbers, two by two as people are told by them. */
  private static long sheets(LadderOfRescued x) {
    mixed = 2;
    if (x.back() == -3) x.image();
    for (int s = 0; s < 4; s++) {
      int sort = 2;
      while (sort >= 0 && x.peopleBy(s, sort, 0, 0) != 0) sort--;
      mix(sort);
      int size = 0;
      while (sort >= 0 && size < 50 && x.copy(s, size + 1, s, 0, 0) == 0) size++;
      mix(size);
      for (int i = 0; i + 1 < size; i += i + 3 == size ? 1 : 2) {
        mix(x.peopleBy(s, sort, i, 1));
        int p = x.count(0) - 1;
        for (int what = 0; what < 4; what++) mix(x.told(p, what));
        x.back();
      }
    }
    return mixed;
  }
  private static final long[] STATE_BEFORE = new long[4], SHEETS_BEFORE = new long[4];

  // ---- tables

  private interface Call { long of(LadderOfRescued x, int[] a); }
  private interface Broken { boolean by(int state, int[] a); }
  private static final class Rule {
    final long code; final Broken broken;
    Rule(long code, Broken broken) { this.code = code; this.broken = broken; }
  }
  private static Rule rule(long code, Broken broken) { return new Rule(code, broken); }
  private static boolean out(int v, int least, int most) { return v < least || v > most; }
  private static int[] edges(int least, int most) {
    return most - least > 1 ? new int[] {MIN, least - 1, least, least + 1, most, most + 1, MAX} : new int[] {MIN, least - 1, least, most, most + 1, MAX};
  }
  private static final int[] ONE = {MIN, -1, 0, 1, 4, 5, 7, 8, MAX}, SHEET = {MIN, -1, 0, 1, 2, 3, 4, MAX};

  private static int promise;
  private static String name;
  private static boolean question;
  private static Call call;
  private static Rule[] rules;
  private static int[][] values;

  private static void change(int promise, String name, Call call, int[][] values, Rule... rules) {
    table(promise, name, false, call, values, rules);
  }
  private static void ask(int promise, String name, Call call, int[][] values, Rule... rules) {
    table(promise, name, true, call, values, rules);
  }
  /** Of these values, one for each argument, all combinations in each state. */
  private static void table(int promise, String name, boolean question, Call call, int[][] values, Rule... rules) {
    RefusalsTest.promise = promise; RefusalsTest.name = name; RefusalsTest.question = question; RefusalsTest.call = call;
    RefusalsTest.values = values; RefusalsTest.rules = rules;
    combine(new int[values.length], 0);
  }
  private static void combine(int[] a, int i) {
    if (i == a.length) {
      for (int st = 0; st < 4; st++) tried(st, a);
      return;
    }
    for (int v : values[i]) { a[i] = v; combine(a, i + 1); }
  }

  private static long refusal(int st, int[] a) {
    for (Rule r : rules) if (r.broken.by(st, a)) return r.code;
    return NONE_BROKEN;
  }
  private static void tried(int st, int[] a) {
    long want = refusal(st, a);
    String told = name + java.util.Arrays.toString(a) + ", " + STATES[st];
    LadderOfRescued x = make(st);
    long got = call.of(x, a);
    if (want == NONE_BROKEN) {
      Due.of(promise, "no refusal is due");
      Due.yes(told + " is taken (" + got + ")", got >= -1);
      if (!question) return;
      Due.of(promise, "What is asked changes nothing");
    } else {
      Due.of(promise, "REFUSALS, of several the first one told");
      Due.is(told, got, want);
      if (name.equals("peopleBy") && want == -12 && a[2] >= 0 && a[2] + 1 < SIZES[st][a[0]]) return;
      Due.of(promise, "REFUSALS change nothing");
    }
    Due.is("people, texts, tape, image after " + told, state(x), STATE_BEFORE[st]);
    x = make(st);
    call.of(x, a);
    Due.is("sheets after " + told, sheets(x), SHEETS_BEFORE[st]);
  }

  private static boolean noOne(int st, int p) { return out(p, 0, PEOPLE[st] - 1); }
  private static boolean saved(int st, int p) { return (SAVED[st] >> p & 1) != 0; }
  private static final Rule BAD_SHEET = rule(-2, (st, a) -> out(a[0], 0, 3));
  private static final Rule MISSING = rule(-11, (st, a) -> SORTS[st][a[0]] == -1);
  private static final Rule TELLS_TOO_MUCH = rule(-2, (st, a) -> SIZES[st][a[0]] > Integer.bitCount(SAVED[st]));

  public static void main(String[] args) {
    for (int st = 0; st < 4; st++) {
      Due.of("states", "how a test's own state is");
      LadderOfRescued x = make(st);
      Due.is("people", x.count(0), PEOPLE[st]); Due.is("saved", x.count(1), Integer.bitCount(SAVED[st]));
      Due.is("texts", x.count(3), TEXTS[st]); Due.is("bytes", x.count(5), BYTES[st]);
      STATE_BEFORE[st] = state(make(st)); SHEETS_BEFORE[st] = sheets(make(st));
      Due.is("made alike", state(make(st)), STATE_BEFORE[st]);
    }
    laws(); people(); ladders(); best(); nights(); lots(); host();
    Due.end("RefusalsTest");
  }

  private static void laws() {
    ask(2, "count", (x, a) -> x.count(a[0]), new int[][] {edges(0, 5)}, rule(-2, (st, a) -> out(a[0], 0, 5)));
    change(3, "winters", (x, a) -> x.winters(a[0]), new int[][] {edges(0, 999)}, rule(-2, (st, a) -> out(a[0], 0, 999)));
    Rule[] feeds = {
        rule(-2, (st, a) -> { for (int i = 1; i < 6; i++) if (out(a[i], 0, 255)) return true; return out(a[0], 1, 5); }),
        rule(-4, (st, a) -> BYTES[st] + a[0] > 160)};
    Call feed = (x, a) -> x.feed(a[0], a[1], a[2], a[3], a[4], a[5]);
    int[] n = {MIN, 0, 1, 5, 6, MAX}, all = {-1, 0, 255, 256}, few = {0, 256}, far = {MIN, 0, MAX};
    change(4, "feed", feed, new int[][] {n, all, all, few, few, few}, feeds);
    change(4, "feed", feed, new int[][] {n, few, few, all, all, all}, feeds);
    change(4, "feed", feed, new int[][] {n, far, far, far, far, far}, feeds);
    for (int st = 0; st < 4; st++) {
      if (TEXTS[st] < 6) continue;
      Due.of(5, "FULL (ahead of the FAULT; then THE TAPE stays)");
      LadderOfRescued x = make(st);
      Due.is("text", x.text(), -4);
      Due.is("people, texts, tape, image", state(x), STATE_BEFORE[st]);
    }
    change(6, "force", (x, a) -> x.force(a[0]), new int[][] {{MIN, -1, 0, 1, 2, 3, 5, 6, MAX}}, rule(-2, (st, a) -> out(a[0], 0, TEXTS[st] - 1)));
    ask(7, "asks", (x, a) -> x.asks(a[0], a[1], a[2]), new int[][] {edges(0, 2), ONE, edges(0, 7)},
        rule(-2, (st, a) -> out(a[0], 0, 2) || noOne(st, a[1]) || out(a[2], 0, 7)));
  }

  private static void people() {
    change(8, "person", (x, a) -> x.person(a[0], a[1]), new int[][] {edges(0, 59), edges(0, 99999)},
        rule(-2, (st, a) -> out(a[0], 0, 59) || out(a[1], 0, 99999)), rule(-4, (st, a) -> PEOPLE[st] == 8));
    change(9, "put", (x, a) -> x.put(a[0], a[1], a[2]), new int[][] {ONE, edges(0, 1), {MIN, -1, 0, 1, 99, 100, 999, 1000, MAX}},
        rule(-5, (st, a) -> noOne(st, a[0])), rule(-7, (st, a) -> out(a[1], 0, 1) || out(a[2], 0, a[1] == 0 ? 99 : 999)));
    change(10, "feud", (x, a) -> x.feud(a[0], a[1], a[2]), new int[][] {ONE, ONE, edges(0, 1)},
        rule(-5, (st, a) -> noOne(st, a[0]) || noOne(st, a[1]) || a[0] == a[1]), rule(-7, (st, a) -> out(a[2], 0, 1)));
    ask(11, "told", (x, a) -> x.told(a[0], a[1]), new int[][] {ONE, edges(0, 5)},
        rule(-5, (st, a) -> noOne(st, a[0])), rule(-7, (st, a) -> out(a[1], 0, 5)));
  }

  private static void ladders() {
    ask(12, "ladder", (x, a) -> x.ladder(a[0]), new int[][] {edges(0, 2)}, rule(-2, (st, a) -> out(a[0], 0, 2)));
    ask(13, "stand", (x, a) -> x.stand(a[0], a[1]), new int[][] {SHEET, edges(0, 2)}, BAD_SHEET, MISSING,
        rule(-2, (st, a) -> !ROWS[st][a[0]]), rule(-7, (st, a) -> out(a[1], 0, 2)));
    change(14, "fire", (x, a) -> x.fire(a[0], a[1]), new int[][] {ONE, edges(0, 999)},
        rule(-5, (st, a) -> noOne(st, a[0])), rule(-7, (st, a) -> out(a[1], 0, 999)), rule(-3, (st, a) -> saved(st, a[0])));
    change(15, "door", (x, a) -> x.door(a[0]), new int[][] {ONE},
        rule(-5, (st, a) -> noOne(st, a[0])), rule(-3, (st, a) -> saved(st, a[0])));
    Due.of(14, "0 not (nobody is SAVED by it, RUST stays)");
    int[] who = {-1, 4, -1, 0};
    for (int st : new int[] {SOME, TAPE}) {
      LadderOfRescued x = make(st);
      Due.is("fire", x.fire(who[st], 999), 0);
      Due.is("people, texts, tape, image", state(x), STATE_BEFORE[st]);
    }
  }

  private static void best() {
    Rule window = rule(-2, (st, a) -> out(a[0], 0, 999)), what = rule(-2, (st, a) -> out(a[0], 0, 1));
    ask(16, "highest", (x, a) -> x.highest(a[0], a[1]), new int[][] {edges(0, 5), edges(0, 1)},
        rule(-2, (st, a) -> out(a[0], 0, 5) || out(a[1], 0, 1)));
    ask(17, "fewest", (x, a) -> x.fewest(a[0]), new int[][] {edges(0, 999)}, window);
    ask(18, "missed", (x, a) -> x.missed(a[0]), new int[][] {edges(0, 1)}, what);
    ask(19, "next", (x, a) -> x.next(a[0]), new int[][] {edges(0, 1)}, what);
    ask(20, "rusts", (x, a) -> x.rusts(a[0]), new int[][] {edges(0, 999)}, window);
    ask(21, "come", (x, a) -> x.come(a[0], a[1]), new int[][] {{MIN, -1, 0, 1, 4, 5, 8, 9, MAX}, edges(0, 1)},
        rule(NO, (st, a) -> out(a[0], 0, Integer.bitCount(SAVED[st])) || out(a[1], 0, 1)));
    ask(22, "reach", (x, a) -> x.reach(a[0], a[1]), new int[][] {edges(0, 999), edges(0, 1)},
        rule(NO, (st, a) -> out(a[0], 0, 999) || out(a[1], 0, 1)));
    ask(23, "chain", (x, a) -> x.chain(a[0]), new int[][] {edges(0, 999)}, window);
  }

  private static void nights() {
    Rule one = rule(-5, (st, a) -> noOne(st, a[1])), third = rule(-7, (st, a) -> out(a[2], 0, 1)), second = rule(-7, (st, a) -> out(a[1], 0, 1));
    ask(24, "judge", (x, a) -> x.judge(a[0]), new int[][] {SHEET}, BAD_SHEET, MISSING, TELLS_TOO_MUCH);
    ask(25, "kinds", (x, a) -> x.kinds(a[0], a[1], a[2]), new int[][] {SHEET, ONE, edges(0, 1)}, BAD_SHEET, MISSING, TELLS_TOO_MUCH, one, third);
    ask(26, "heights", (x, a) -> x.heights(a[0], a[1], a[2]), new int[][] {SHEET, ONE, edges(0, 1)}, BAD_SHEET, MISSING, TELLS_TOO_MUCH, one, third);
    ask(27, "years", (x, a) -> x.years(a[0], a[1]), new int[][] {SHEET, edges(0, 1)}, BAD_SHEET, MISSING, TELLS_TOO_MUCH, second);
    ask(28, "whose", (x, a) -> x.whose(a[0], a[1]), new int[][] {SHEET, edges(0, 1)}, BAD_SHEET, MISSING, TELLS_TOO_MUCH, second);
    ask(29, "laws", (x, a) -> x.laws(a[0]), new int[][] {SHEET}, BAD_SHEET, MISSING, TELLS_TOO_MUCH);
    change(30, "film", (x, a) -> x.film(a[0]), new int[][] {SHEET}, BAD_SHEET);
  }

  private static void lots() {
    ask(31, "drawn", (x, a) -> x.drawn(a[0], a[1]), new int[][] {edges(0, 99999), edges(0, 2)},
        rule(-2, (st, a) -> out(a[0], 0, 99999) || out(a[1], 0, 2)));
    ask(32, "odds", (x, a) -> x.odds(a[0], a[1], a[2], a[3]), new int[][] {edges(0, 99999), edges(1, 60), edges(0, 999), edges(0, 1)},
        rule(NO, (st, a) -> out(a[0], 0, 99999) || out(a[1], 1, 60) || out(a[2], 0, 999) || out(a[3], 0, 1)));
    for (int st = 0; st < 4; st++) {
      Due.of(34, "STATE: there is none");
      LadderOfRescued x = make(st);
      int got = x.back();
      Due.yes("back, " + STATES[st] + " (" + got + ")", IMAGE[st] ? got >= 0 : got == -3);
      if (!IMAGE[st]) Due.is("people, texts, tape, image", state(x), STATE_BEFORE[st]);
    }
  }

  private static void host() {
    change(35, "sheet", (x, a) -> x.sheet(a[0], a[1], a[2]), new int[][] {SHEET, {MIN, -2, -1, 0, 1, 2, 3, MAX}, {MIN, -1, 0, 40, 41, MAX}},
        BAD_SHEET, rule(-2, (st, a) -> out(a[1], -1, 2)), rule(-2, (st, a) -> a[1] != -1 && a[2] > 40), rule(-14, (st, a) -> a[1] != -1 && a[2] < 0));
    change(36, "cell", (x, a) -> x.cell(a[0], a[1], a[2]), new int[][] {SHEET, {MIN, -1, 0, 2, 3, 7, 8, 9, 11, 12, 39, 40, MAX}, {MIN, 0, MAX}},
        BAD_SHEET, MISSING, rule(-12, (st, a) -> out(a[1], 0, SIZES[st][a[0]] - 1)));
    int[] sheet = {-1, 0, 1, 2, 3, 4};
    change(37, "copy", (x, a) -> x.copy(a[0], a[1], a[2], a[3], a[4]),
        new int[][] {sheet, {MIN, -1, 0, 1, 8, 9, MAX}, sheet, {-1, 0, 3, 40, MAX}, {MIN, -1, 0, 1, 3, 8, 40, MAX}},
        rule(-2, (st, a) -> out(a[0], 0, 3) || out(a[2], 0, 3)), rule(-11, (st, a) -> SORTS[st][a[0]] == -1 || SORTS[st][a[2]] == -1),
        rule(-13, (st, a) -> SORTS[st][a[0]] != SORTS[st][a[2]]), rule(-12, (st, a) -> a[1] < 0 || a[3] < 0 || a[4] < 0
            || (long) a[1] + a[4] > SIZES[st][a[0]] || (long) a[3] + a[4] > SIZES[st][a[2]]));
    Rule other = rule(-13, (st, a) -> SORTS[st][a[0]] != a[1]);
    Rule numbers = rule(-2, (st, a) -> out(a[1], 0, 2) || out(a[3], 0, 8));
    Rule outside = rule(-12, (st, a) -> a[2] < 0 || a[2] + 2L * a[3] > SIZES[st][a[0]]);
    change(38, "peopleBy", (x, a) -> x.peopleBy(a[0], a[1], a[2], a[3]),
        new int[][] {SHEET, {MIN, -1, 0, 1, 2, 3, MAX}, {MIN, -1, 0, 1, 2, 7, 8, 12, 39, 40, MAX}, {MIN, -1, 1, 2, 8, 9, MAX}},
        BAD_SHEET, numbers, MISSING, other, outside);
    change(38, "peopleBy", (x, a) -> x.peopleBy(a[0], a[1], a[2], a[3]), new int[][] {SHEET, {-1, 0, 1, 2, 3}, {0}, {0}},
        BAD_SHEET, numbers, MISSING, other);
    ask(39, "taken", (x, a) -> x.taken(a[0], a[1]), new int[][] {{MIN, -1, 0, 1, 2, 3, 4, 5, 6, 7, 8, 12, 13, 15, 16, MAX}, {MIN, -1, 0, 1, 2, 3, 4, 5, 6, 7, MAX}},
        rule(-2, (st, a) -> out(a[1], 0, 6)), rule(-12, (st, a) -> out(a[0], 0, 15)), rule(-11, (st, a) -> noOne(st, a[0] % 8)),
        rule(-13, (st, a) -> a[0] > 7 ? a[1] < 6 : a[1] == 6 || !isA(KINDS[a[0]], a[1])));
  }
  private static boolean isA(int kind, int asked) {
    return asked == 0 || asked == kind || kind == 3 && asked == 1 || kind == 4 && asked == 2;
  }
}
