import java.util.ArrayList;
import java.util.List;
import java.util.Random;

// Random runs of calls, each compared with a plain model that tries everything out.
public final class ModelTest {
  private static final long NO = LadderOfRescued.NO;
  private static final int CALLS = 512;

  private static final class Fault extends RuntimeException {
    final int place;
    Fault(int place) { super(null, null, false, false); this.place = place; }
  }
  private interface E { int of(Model m, int p, int rung); }
  private static final class Token {
    final String word; final int place;
    Token(String word, int place) { this.word = word; this.place = place; }
  }

  /** Reads a text by its tokens, listed ahead. A token that is none is listed as "?". */
  private static final class Parse {
    final List<Token> tokens = new ArrayList<>();
    final E[] parts = new E[3];
    int at = 0;
    final List<String> open = new ArrayList<>();

    Parse(String s) {
      int i = 0;
      while (i < s.length()) {
        int from = i;
        char c = s.charAt(i);
        if (c == 32 || c == 10) { i++; continue; }
        if (c >= 'a' && c <= 'z') {
          while (i < s.length() && s.charAt(i) >= 'a' && s.charAt(i) <= 'z') i++;
          String w = s.substring(from, i);
          boolean known = " tall bears comes or and not height strong rust rung saved more ".contains(" " + w + " ");
          tokens.add(new Token(known ? w : "?", from));
        } else if (c >= '0' && c <= '9') {
          while (i < s.length() && s.charAt(i) >= '0' && s.charAt(i) <= '9') i++;
          tokens.add(new Token(i - from > 4 ? "?" : s.substring(from, i), from));
        } else {
          i++;
          tokens.add(new Token("();+-*<=".indexOf(c) >= 0 ? "" + c : "?", from));
        }
      }
      tokens.add(new Token("end", s.length()));
      String[] keys = {"tall", "bears", "comes"};
      for (int k = 0; k < 3; k++) { must(keys[k]); parts[k] = e(); must(";"); }
      must("end");
    }
    String look() { return tokens.get(at).word; }
    Token take() { return tokens.get(at++); }
    void must(String w) { if (!look().equals(w)) throw new Fault(tokens.get(at).place); if (!w.equals("end")) at++; }
    boolean may(String w) { if (look().equals(w)) { at++; return true; } return false; }
    void opens(String w) { if (open.size() == 5) throw new Fault(tokens.get(at).place); open.add(w); at++; }
    void closes() { open.remove(open.size() - 1); }

    E e() {
      E a = and();
      while (may("or")) { E l = a, r = and(); a = (m, p, g) -> l.of(m, p, g) != 0 | r.of(m, p, g) != 0 ? 1 : 0; }
      return a;
    }
    E and() {
      E a = not();
      while (may("and")) { E l = a, r = not(); a = (m, p, g) -> l.of(m, p, g) != 0 & r.of(m, p, g) != 0 ? 1 : 0; }
      return a;
    }
    E not() {
      if (look().equals("not")) {
        opens("not");
        E a = not();
        closes();
        return (m, p, g) -> a.of(m, p, g) == 0 ? 1 : 0;
      }
      E l = sum();
      if (may("<")) { E r = sum(); return (m, p, g) -> l.of(m, p, g) < r.of(m, p, g) ? 1 : 0; }
      if (may("=")) { E r = sum(); return (m, p, g) -> l.of(m, p, g) == r.of(m, p, g) ? 1 : 0; }
      return l;
    }
    E sum() {
      E a = term();
      while (true) {
        E l = a;
        if (may("+")) { E r = term(); a = (m, p, g) -> l.of(m, p, g) + r.of(m, p, g); }
        else if (may("-")) { E r = term(); a = (m, p, g) -> l.of(m, p, g) - r.of(m, p, g); }
        else return a;
      }
    }
    E term() {
      E a = one();
      while (may("*")) { E l = a, r = one(); a = (m, p, g) -> l.of(m, p, g) * r.of(m, p, g); }
      return a;
    }
    E one() {
      String w = look();
      if (w.charAt(0) >= '0' && w.charAt(0) <= '9') { int v = Integer.parseInt(take().word); return (m, p, g) -> v; }
      switch (w) {
        case "height": take(); return (m, p, g) -> m.all.get(p).height;
        case "strong": take(); return (m, p, g) -> m.all.get(p).strong;
        case "more": take(); return (m, p, g) -> m.all.get(p).more;
        case "rust": take(); return (m, p, g) -> m.rust;
        case "saved": take(); return (m, p, g) -> m.saved.size();
        case "rung": take(); return (m, p, g) -> g;
        case "-": { opens("-"); E a = one(); closes(); return (m, p, g) -> -a.of(m, p, g); }
        case "(": { opens("("); E a = e(); must(")"); closes(); return a; }
        default: throw new Fault(tokens.get(at).place);
      }
    }
  }

  private static final class One {
    int kind, more, height, strong;
    One(int kind, int more, int height, int strong) { this.kind = kind; this.more = more; this.height = height; this.strong = strong; }
  }

  private static final class Model {
    List<One> all = new ArrayList<>();
    List<Integer> saved = new ArrayList<>();
    boolean[][] feuds = new boolean[8][8];
    int rust = 0, law = 0;
    String tape = "";
    List<Parse> texts = new ArrayList<>();
    int[][] sheets = new int[4][];
    int[] sorts = {-1, -1, -1, -1};
    Model image = null;

    Model() { texts.add(new Parse("tall height ; bears strong ; comes 80 - rust * 5 ;")); }
    Model(Model o) {
      for (One one : o.all) all.add(new One(one.kind, one.more, one.height, one.strong));
      saved.addAll(o.saved);
      for (int i = 0; i < 8; i++) feuds[i] = o.feuds[i].clone();
      rust = o.rust; law = o.law; texts = o.texts; sheets = o.sheets; sorts = o.sorts; tape = o.tape;
    }
    void become(Model o) {
      Model c = new Model(o);
      all = c.all; saved = c.saved; feuds = c.feuds; rust = c.rust; law = c.law;
    }
    boolean is(int p) { return p >= 0 && p < all.size(); }
    static boolean in(int v, int a, int b) { return a <= v && v <= b; }

    int says(int part, int p, int rung) {
      int v = texts.get(law).parts[part].of(this, p, rung);
      int most = new int[] {99, 999, 100}[part];
      return v < 0 ? 0 : v > most ? most : v;
    }
    int rises(int p, int rung) {
      One one = all.get(p);
      int t = says(0, p, rung);
      int v = one.kind == 2 ? t + one.more : one.kind == 4 ? t / 2 : one.kind == 5 && rust > one.more ? t - 3 : t;
      return v < 0 ? 0 : v;
    }
    int bears(int p, int rung) {
      One one = all.get(p);
      int b = says(1, p, rung);
      if (one.kind == 1) return b + one.more * 10;
      if (one.kind == 3) return (b + one.more * 10) * 2;
      return one.kind == 2 || one.kind == 4 ? b / 2 : b;
    }
    int weighs(int p) {
      One one = all.get(p);
      if (one.kind == 5) return one.height;
      if (one.kind == 4) return one.height / 4;
      return one.height / 2 + (one.kind == 3 ? 9 : 0);
    }
    int high(List<Integer> l) { int h = 0; for (int i = 0; i < l.size(); i++) h += rises(l.get(i), i); return h; }
    int weak(List<Integer> l) {
      for (int i = 0; i < l.size(); i++) {
        int above = 0;
        for (int j = i + 1; j < l.size(); j++) above += weighs(l.get(j));
        if (bears(l.get(i), i) < above) return i;
        if (i > 0 && feuds[l.get(i)][l.get(i - 1)]) return i;
      }
      return -1;
    }
    int load(List<Integer> l) { int w = 0; for (int i = 1; i < l.size(); i++) w += weighs(l.get(i)); return w; }
    int measure(List<Integer> l, int what) { return what == 0 ? high(l) : what == 1 ? weak(l) : load(l); }
    boolean serves(List<Integer> l, int window) { return high(l) >= window && weak(l) == -1; }
    static int digits(List<Integer> l) { int d = 0; for (int p : l) d = d * 10 + p + 1; return d; }

    /** All rows of n or fewer of some, each ahead of what goes on from it. */
    static void rows(List<Integer> of, int n, List<Integer> row, List<List<Integer>> into) {
      into.add(new ArrayList<>(row));
      if (row.size() == n) return;
      for (int p = 0; p < 8; p++) {
        if (of.contains(p) && !row.contains(p)) {
          row.add(p);
          rows(of, n, row, into);
          row.remove(row.size() - 1);
        }
      }
    }
    /** digits, high */
    int[] highest(int n, List<Integer> of) {
      List<List<Integer>> into = new ArrayList<>();
      rows(of, n, new ArrayList<>(), into);
      int[] best = {-1, 0};
      for (List<Integer> l : into) {
        if (weak(l) == -1 && high(l) > best[1]) { best[0] = digits(l); best[1] = high(l); }
      }
      return best;
    }

    int count(int what) {
      if (!in(what, 0, 5)) return -2;
      return new int[] {all.size(), saved.size(), rust, texts.size(), law, tape.length()}[what];
    }
    int winters(int n) { if (!in(n, 0, 999)) return -2; int was = rust; rust = n; return was; }
    int feed(int n, int... five) {
      if (!in(n, 1, 5)) return -2;
      for (int b : five) if (!in(b, 0, 255)) return -2;
      if (tape.length() + n > 160) return -4;
      for (int i = 0; i < n; i++) tape += (char) five[i];
      return tape.length();
    }
    int text() {
      if (texts.size() == 6) return -4;
      String s = tape;
      tape = "";
      try { texts.add(new Parse(s)); return texts.size() - 1; } catch (Fault f) { return -100 - f.place; }
    }
    int force(int t) { if (!in(t, 0, texts.size() - 1)) return -2; int was = law; law = t; return was; }
    int asks(int part, int p, int rung) { return !in(part, 0, 2) || !is(p) || !in(rung, 0, 7) ? -2 : says(part, p, rung); }
    int person(int a, int b) {
      if (!in(a, 0, 59) || !in(b, 0, 99999)) return -2;
      if (all.size() == 8) return -4;
      int p = all.size();
      all.add(new One(a / 10, a % 10, b / 1000, b % 1000));
      for (int q = 0; q < 8; q++) feuds[p][q] = feuds[q][p] = false;
      return p;
    }
    int put(int p, int what, int v) {
      if (!is(p)) return -5;
      if (!in(what, 0, 1) || !in(v, 0, what == 0 ? 99 : 999)) return -7;
      One one = all.get(p);
      int was = what == 0 ? one.height : one.strong;
      if (what == 0) one.height = v; else one.strong = v;
      return was;
    }
    int feud(int a, int b, int f) {
      if (!is(a) || !is(b) || a == b) return -5;
      if (!in(f, 0, 1)) return -7;
      int was = feuds[a][b] ? 1 : 0;
      feuds[a][b] = feuds[b][a] = f == 1;
      return was;
    }
    int told(int p, int what) {
      if (!is(p)) return -5;
      if (!in(what, 0, 5)) return -7;
      One one = all.get(p);
      int bits = 0;
      for (int q = 0; q < all.size(); q++) if (feuds[p][q]) bits += 1 << q;
      return new int[] {one.height, one.strong, one.kind, one.more, bits, saved.indexOf(p)}[what];
    }
    int ladder(int what) { return in(what, 0, 2) ? measure(saved, what) : -2; }
    int stand(int s, int what) {
      if (!in(s, 0, 3)) return -2;
      if (sorts[s] < 0) return -11;
      List<Integer> l = new ArrayList<>();
      if (sheets[s].length > 8) return -2;
      for (int p : sheets[s]) { if (!is(p) || l.contains(p)) return -2; l.add(p); }
      return in(what, 0, 2) ? measure(l, what) : -7;
    }
    int fire(int p, int window) {
      if (!is(p)) return -5;
      if (!in(window, 0, 999)) return -7;
      if (saved.contains(p)) return -3;
      if (!serves(saved, window)) return 0;
      saved.add(p);
      rust = 0;
      return 1;
    }
    int door(int p) { if (!is(p)) return -5; if (saved.contains(p)) return -3; saved.add(p); return saved.size(); }
    int highest(int n, int what) { return !in(n, 0, 5) || !in(what, 0, 1) ? -2 : highest(n, saved)[what]; }
    int fewest(int window) {
      if (!in(window, 0, 999)) return -2;
      for (int n = 0; n < 6; n++) if (highest(n, saved)[1] >= window) return n;
      return -1;
    }
    int missed(int what) {
      if (!in(what, 0, 1)) return -2;
      int[] best = {-1, highest(4, saved)[1]};
      for (int p : saved) {
        List<Integer> rest = new ArrayList<>(saved);
        rest.remove((Integer) p);
        int h = highest(4, rest)[1];
        if (best[0] < 0 || h < best[1]) { best[0] = p; best[1] = h; }
      }
      return best[what];
    }
    int next(int what) {
      if (!in(what, 0, 1)) return -2;
      int[] best = {-1, high(saved)};
      for (int p = 0; p < all.size(); p++) {
        if (saved.contains(p)) continue;
        List<Integer> l = new ArrayList<>(saved);
        l.add(p);
        if (weak(l) == -1 && (best[0] < 0 || high(l) > best[1])) { best[0] = p; best[1] = high(l); }
      }
      return best[what];
    }
    int rusts(int window) {
      if (!in(window, 0, 999)) return -2;
      for (int k = 0; k < 100; k++) {
        Model m = new Model(this);
        m.rust = Math.min(999, rust + k);
        if (m.high(m.saved) < window) return k;
      }
      return -1;
    }
    static long lowest(long a, long b, int part) {
      return java.math.BigInteger.valueOf(part == 0 ? a : b)
          .divide(java.math.BigInteger.valueOf(a).gcd(java.math.BigInteger.valueOf(b))).longValue();
    }
    long come(int n, int part) {
      if (!in(n, 0, saved.size()) || !in(part, 0, 1)) return NO;
      long a = 1, b = 1;
      for (int i = 0; i < n; i++) { a *= says(2, saved.get(i), i); b *= 100; }
      return lowest(a, b, part);
    }
    void sets(int from, List<Integer> l, int window, long[] found) {
      if (from == saved.size()) { if (serves(l, window)) found[0]++; found[1]++; return; }
      sets(from + 1, l, window, found);
      List<Integer> more = new ArrayList<>(l);
      more.add(saved.get(from));
      sets(from + 1, more, window, found);
    }
    long reach(int window, int part) {
      if (!in(window, 0, 999) || !in(part, 0, 1)) return NO;
      long[] found = new long[2];
      sets(0, new ArrayList<>(), window, found);
      return lowest(found[0], found[1], part);
    }
    int chain(int window) {
      if (!in(window, 0, 999)) return -2;
      Model m = new Model(this);
      boolean again = true;
      while (again) {
        again = false;
        for (int p = 0; p < all.size() && !again; p++) if (!m.saved.contains(p) && m.fire(p, window) == 1) again = true;
      }
      int bits = 0;
      for (int p : m.saved) bits |= 1 << p;
      return bits;
    }
    int refused(int s) { return !in(s, 0, 3) ? -2 : sorts[s] < 0 ? -11 : sheets[s].length > saved.size() ? -2 : 0; }
    boolean toldSo(int s, List<Integer> l) { for (int i = 0; i < sheets[s].length; i++) if (high(l.subList(0, i + 1)) != sheets[s][i]) return false; return true; }
    int judge(int s) {
      if (refused(s) != 0) return refused(s);
      for (int i = 0; i < sheets[s].length; i++) if (high(saved.subList(0, i + 1)) != sheets[s][i]) return i;
      return -1;
    }
    int kinds(int s, int p, int sort) {
      if (refused(s) != 0) return refused(s);
      if (!is(p)) return -5;
      if (!in(sort, 0, 1)) return -7;
      int bits = 0;
      for (int v = 0; v < (sort == 0 ? 6 : 10); v++) {
        Model m = new Model(this);
        if (sort == 0) m.all.get(p).kind = v; else m.all.get(p).more = v;
        if (m.judge(s) == -1) bits |= 1 << v;
      }
      return bits;
    }
    int heights(int s, int p, int what) {
      if (refused(s) != 0) return refused(s);
      if (!is(p)) return -5;
      if (!in(what, 0, 1)) return -7;
      int[] found = {0, -1};
      for (int v = 0; v < 100; v++) {
        Model m = new Model(this);
        m.all.get(p).height = v;
        if (m.judge(s) == -1) { found[0]++; if (found[1] < 0) found[1] = v; }
      }
      return found[what];
    }
    int years(int s, int what) {
      if (refused(s) != 0) return refused(s);
      if (!in(what, 0, 1)) return -7;
      int[] found = {0, -1};
      for (int v = 0; v < 100; v++) {
        Model m = new Model(this);
        m.rust = v;
        if (m.judge(s) == -1) { found[0]++; if (found[1] < 0) found[1] = v; }
      }
      return found[what];
    }
    int whose(int s, int what) {
      if (refused(s) != 0) return refused(s);
      if (!in(what, 0, 1)) return -7;
      List<List<Integer>> into = new ArrayList<>();
      rows(saved, sheets[s].length, new ArrayList<>(), into);
      int[] found = {0, 0};
      for (List<Integer> l : into) {
        if (l.size() == sheets[s].length && toldSo(s, l)) { found[0]++; found[1] = found[1] == 0 ? digits(l) : Math.min(found[1], digits(l)); }
      }
      return found[what];
    }
    int laws(int s) {
      if (refused(s) != 0) return refused(s);
      int bits = 0;
      for (int t = 0; t < texts.size(); t++) { Model m = new Model(this); m.law = t; if (m.judge(s) == -1) bits |= 1 << t; }
      return bits;
    }
    int film(int s) {
      if (!in(s, 0, 3)) return -2;
      sorts[s] = 2;
      sheets[s] = new int[saved.size()];
      for (int i = 0; i < saved.size(); i++) sheets[s][i] = high(saved.subList(0, i + 1));
      return saved.size();
    }
    List<Integer> come(int seed) {
      List<Integer> l = new ArrayList<>();
      long lot = (seed + 1L) * 48271 % 2147483647L;
      for (int i = 0; i < saved.size(); i++) {
        if (lot % 100 < says(2, saved.get(i), i)) l.add(saved.get(i));
        lot = lot * 48271 % 2147483647L;
      }
      return l;
    }
    int drawn(int seed, int what) {
      if (!in(seed, 0, 99999) || !in(what, 0, 2)) return -2;
      return what == 2 ? come(seed).size() : measure(come(seed), what);
    }
    long odds(int seed, int seeds, int window, int part) {
      if (!in(seed, 0, 99999) || !in(seeds, 1, 60) || !in(window, 0, 999) || !in(part, 0, 1)) return NO;
      int many = 0;
      for (int i = seed; i < seed + seeds; i++) if (serves(come(i), window)) many++;
      return lowest(many, seeds, part);
    }
    int image() { image = new Model(this); return all.size(); }
    int back() { if (image == null) return -3; become(image); return all.size(); }
    int sheet(int s, int sort, int n) {
      if (!in(s, 0, 3) || !in(sort, -1, 2)) return -2;
      if (sort == -1) { sorts[s] = -1; sheets[s] = null; return 1; }
      if (n > 40) return -2;
      if (n < 0) return -14;
      sorts[s] = sort;
      sheets[s] = new int[n];
      return 1;
    }
    int cell(int s, int i, int v) {
      if (!in(s, 0, 3)) return -2;
      if (sorts[s] < 0) return -11;
      if (!in(i, 0, sheets[s].length - 1)) return -12;
      sheets[s][i] = sorts[s] == 0 ? (byte) v : sorts[s] == 1 ? (short) v : v;
      return 1;
    }
    int copy(int s, int i, int o, int j, int n) {
      if (!in(s, 0, 3) || !in(o, 0, 3)) return -2;
      if (sorts[s] < 0 || sorts[o] < 0) return -11;
      if (sorts[s] != sorts[o]) return -13;
      if (i < 0 || j < 0 || n < 0 || (long) i + n > sheets[s].length || (long) j + n > sheets[o].length) return -12;
      int[] were = sheets[s].clone();
      for (int k = 0; k < n; k++) sheets[o][j + k] = were[i + k];
      return n;
    }
    int peopleBy(int s, int sort, int from, int n) {
      if (!in(s, 0, 3) || !in(sort, 0, 2) || !in(n, 0, 8)) return -2;
      if (sorts[s] < 0) return -11;
      if (sorts[s] != sort) return -13;
      int came = 0;
      for (long k = 0; k < n; k++) {
        long a = from + 2 * k;
        if (a < 0 || a + 1 >= sheets[s].length) return -12;
        if (person(sheets[s][(int) a], sheets[s][(int) a + 1]) >= 0) came++;
      }
      return came;
    }
    int taken(int i, int kind) {
      if (!in(kind, 0, 6)) return -2;
      if (!in(i, 0, 15)) return -12;
      int p = i & 7;
      if (!is(p)) return -11;
      if (i > 7) return kind == 6 ? (saved.contains(p) ? 1 : 0) : -13;
      int k = all.get(p).kind;
      boolean is = kind == 0 || kind == k || kind == 1 && k == 3 || kind == 2 && k == 4;
      return is ? p : -13;
    }
  }

  // ---- random calls

  private static Random random;
  private static int wild(int usualLeast, int usualMost) {
    int r = random.nextInt(60);
    if (r == 0) return new int[] {Integer.MIN_VALUE, Integer.MAX_VALUE, -1, -2, 1 << 30, 100}[random.nextInt(6)];
    if (r == 1) return usualMost + 1;
    if (r == 2) return usualLeast - 1;
    return usualLeast + random.nextInt(usualMost - usualLeast + 1);
  }
  private static int window() { return random.nextInt(3) == 0 ? wild(0, 999) : wild(0, 200); }

  private static String any(String... of) { return of[random.nextInt(of.length)]; }
  private static String blank() { return random.nextInt(4) == 0 ? any(" ", "\n", "  ") : ""; }
  private static String someE(int depth) {
    int r = random.nextInt(depth <= 0 ? 3 : 10);
    switch (r) {
      case 0: return any("height", "strong", "rust", "rung", "saved", "more");
      case 1: return "" + random.nextInt(any("a", "b", "c").equals("a") ? 10000 : 60);
      case 2: return any("height", "more", "rung", "saved", "strong", "7", "50");
      case 3: return "(" + blank() + someE(depth - 1) + ")" + blank();
      case 4: return "-" + blank() + someE(depth - 2);
      case 5: return "not " + someE(depth - 1);
      case 6: return someE(depth - 1) + any(" or ", " and ") + someE(depth - 1);
      case 7: return someE(depth - 1) + any("<", "=", " < ") + someE(depth - 1);
      case 8: return someE(depth - 1) + "*" + blank() + someE(depth - 1);
      default: return someE(depth - 1) + any("+", "-", " - ") + someE(depth - 1);
    }
  }
  private static String someText() {
    String s = "tall " + (random.nextBoolean() ? "height" + any("", "-rung*5", "+more", "-saved", "*(rust<9)") : someE(3)) + ";bears "
        + (random.nextBoolean() ? "strong" + any("", "*2", "-rung*9", "+saved*50") : someE(3)) + ";comes "
        + (random.nextBoolean() ? "80 - rust*5" : someE(3)) + ";" + blank();
    int spoil = random.nextInt(3);
    StringBuilder b = new StringBuilder(s);
    for (int i = 0; i < 2 && spoil == 0; i++) {
      int at = random.nextInt(b.length() + 1);
      String by = any("(", ")", ";", "not ", "-", "- - - ", "((((", "12345", "x", "@", " ", "<", "and", "+", "1", "\u00e9", "((((((");
      if (random.nextInt(3) == 0 && at < b.length()) b.deleteCharAt(at); else b.insert(at, by);
    }
    return b.toString();
  }

  private static int wrong = 0;
  private static List<String> log = new ArrayList<>();
  private static void same(String call, long got, long want) {
    log.add(call + " = " + got);
    if (got != want && wrong++ < 5) {
      System.out.println("model says " + want + ": " + call + " answered " + got);
      for (String s : log.subList(Math.max(0, log.size() - 30), log.size())) System.out.println("    " + s);
    }
  }

  private static void call(LadderOfRescued x, Model m) {
    int p = wild(0, 7), q = wild(0, 7), s = wild(0, 3), w = wild(0, 1), v = window();
    switch (random.nextInt(48)) {
      case 0: w = wild(0, 5); same("count " + w, x.count(w), m.count(w)); break;
      case 1: w = random.nextBoolean() ? wild(0, 12) : wild(0, 999); same("winters " + w, x.winters(w), m.winters(w)); break;
      case 2: { int n = wild(1, 5), a = wild(0, 255), b = wild(0, 255), c = wild(0, 255), d = wild(0, 255), e = wild(0, 255);
        same("feed " + n + " " + a + " " + b + " " + c + " " + d + " " + e, x.feed(n, a, b, c, d, e), m.feed(n, a, b, c, d, e)); break; }
      case 3: case 4: {
        if (random.nextInt(4) > 0) { same("text", x.text(), m.text()); }
        String t = someText();
        t = t.substring(0, Math.min(t.length(), 190));
        for (int i = 0; i < t.length(); i += 5) {
          int[] five = new int[5];
          int n = Math.min(5, t.length() - i);
          for (int k = 0; k < n; k++) five[k] = t.charAt(i + k);
          same("feed " + t.substring(i, i + n), x.feed(n, five[0], five[1], five[2], five[3], five[4]), m.feed(n, five));
        }
        same("text " + t, x.text(), m.text());
        break; }
      case 5: { int t = wild(0, 5); same("force " + t, x.force(t), m.force(t)); break; }
      case 6: { int a = wild(0, 2); same("asks " + a + " " + p + " " + q, x.asks(a, p, q), m.asks(a, p, q)); break; }
      case 7: case 8: case 9: { int a = wild(0, 59), b = 1000 * wild(0, 99) + wild(0, random.nextBoolean() ? 100 : 999);
        same("person " + a + " " + b, x.person(a, b), m.person(a, b)); break; }
      case 10: v = wild(0, random.nextBoolean() ? 99 : 999); same("put " + p + " " + w + " " + v, x.put(p, w, v), m.put(p, w, v)); break;
      case 11: same("feud " + p + " " + q + " " + w, x.feud(p, q, w), m.feud(p, q, w)); break;
      case 12: w = wild(0, 5); same("told " + p + " " + w, x.told(p, w), m.told(p, w)); break;
      case 13: w = wild(0, 2); same("ladder " + w, x.ladder(w), m.ladder(w)); break;
      case 14: w = wild(0, 2); same("stand " + s + " " + w, x.stand(s, w), m.stand(s, w)); break;
      case 15: { int[] row = new int[random.nextInt(10)];
        s = random.nextInt(4);
        int sort = random.nextInt(3);
        same("sheet " + s, x.sheet(s, sort, row.length), m.sheet(s, sort, row.length));
        for (int i = 0; i < row.length; i++) { int c = wild(0, 7); same("cell " + s + " " + i + " " + c, x.cell(s, i, c), m.cell(s, i, c)); }
        w = wild(0, 2); same("stand " + s + " " + w, x.stand(s, w), m.stand(s, w)); break; }
      case 16: same("fire " + p + " " + v, x.fire(p, v), m.fire(p, v)); break;
      case 17: case 18: same("door " + p, x.door(p), m.door(p)); break;
      case 19: { int n = wild(0, 5); same("highest " + n + " " + w, x.highest(n, w), m.highest(n, w)); break; }
      case 20: same("fewest " + v, x.fewest(v), m.fewest(v)); break;
      case 21: same("missed " + w, x.missed(w), m.missed(w)); break;
      case 22: same("next " + w, x.next(w), m.next(w)); break;
      case 23: same("rusts " + v, x.rusts(v), m.rusts(v)); break;
      case 24: same("come " + p + " " + w, x.come(p, w), m.come(p, w)); break;
      case 25: same("reach " + v + " " + w, x.reach(v, w), m.reach(v, w)); break;
      case 26: same("chain " + v, x.chain(v), m.chain(v)); break;
      case 27: same("judge " + s, x.judge(s), m.judge(s)); break;
      case 28: case 29: same("kinds " + s + " " + p + " " + w, x.kinds(s, p, w), m.kinds(s, p, w)); break;
      case 30: case 31: same("heights " + s + " " + p + " " + w, x.heights(s, p, w), m.heights(s, p, w)); break;
      case 32: same("years " + s + " " + w, x.years(s, w), m.years(s, w)); break;
      case 33: case 34: same("whose " + s + " " + w, x.whose(s, w), m.whose(s, w)); break;
      case 35: same("laws " + s, x.laws(s), m.laws(s)); break;
      case 36: case 37: same("film " + s, x.film(s), m.film(s)); break;
      case 38: { int seed = wild(0, 99999); w = wild(0, 2); same("drawn " + seed + " " + w, x.drawn(seed, w), m.drawn(seed, w)); break; }
      case 39: { int seed = wild(0, 99999), seeds = wild(1, 60);
        same("odds " + seed + " " + seeds + " " + v + " " + w, x.odds(seed, seeds, v, w), m.odds(seed, seeds, v, w)); break; }
      case 40: if (random.nextInt(3) == 0) same("image", x.image(), m.image()); break;
      case 41: if (random.nextInt(4) == 0) same("back", x.back(), m.back()); break;
      case 42: { int sort = wild(-1, 2), n = wild(0, 40); same("sheet " + s + " " + sort + " " + n, x.sheet(s, sort, n), m.sheet(s, sort, n)); break; }
      case 43: { int i = wild(0, random.nextBoolean() ? 8 : 40), c = random.nextBoolean() ? random.nextInt() : wild(0, 200);
        same("cell " + s + " " + i + " " + c, x.cell(s, i, c), m.cell(s, i, c)); break; }
      case 44: { int o = wild(0, 3), i = wild(0, 9), j = wild(0, 9), n = wild(0, 9);
        same("copy " + s + " " + i + " " + o + " " + j + " " + n, x.copy(s, i, o, j, n), m.copy(s, i, o, j, n)); break; }
      case 45: { int sort = wild(0, 2), from = wild(0, 12), n = wild(0, 8);
        same("peopleBy " + s + " " + sort + " " + from + " " + n, x.peopleBy(s, sort, from, n), m.peopleBy(s, sort, from, n)); break; }
      case 46: { int i = wild(0, 15), k = wild(0, 6); same("taken " + i + " " + k, x.taken(i, k), m.taken(i, k)); break; }
      default: { // a film, perhaps spoilt, and what it tells
        s = random.nextInt(4);
        same("film " + s, x.film(s), m.film(s));
        int cut = random.nextInt(9);
        if (m.saved.size() > 0 && random.nextBoolean()) { int i = random.nextInt(m.saved.size()), c = m.sheets[s][i] + random.nextInt(9) - 4;
          same("cell " + s + " " + i + " " + c, x.cell(s, i, c), m.cell(s, i, c)); }
        if (cut < m.saved.size()) {
          int o = s ^ 1;
          same("sheet " + o, x.sheet(o, 2, cut), m.sheet(o, 2, cut));
          same("copy " + s + " " + o, x.copy(s, 0, o, 0, cut), m.copy(s, 0, o, 0, cut));
          s = o;
        }
        if (random.nextBoolean()) same("force", x.force(w), m.force(w));
        same("judge " + s, x.judge(s), m.judge(s));
        same("whose " + s + " " + w, x.whose(s, w), m.whose(s, w));
        same("years " + s + " " + w, x.years(s, w), m.years(s, w));
        same("laws " + s, x.laws(s), m.laws(s));
        same("kinds " + s + " " + p + " " + w, x.kinds(s, p, w), m.kinds(s, p, w));
        same("heights " + s + " " + p + " " + w, x.heights(s, p, w), m.heights(s, p, w)); }
    }
  }

  /** Whatever may be asked of the state without a change. */
  private static void state(LadderOfRescued x, Model m) {
    for (int i = 0; i < 6; i++) same("count " + i, x.count(i), m.count(i));
    for (int p = 0; p < 9; p++) for (int i = 0; i < 6; i++) same("told " + p + " " + i, x.told(p, i), m.told(p, i));
    for (int i = 0; i < 3; i++) same("ladder " + i, x.ladder(i), m.ladder(i));
  }

  public static void main(String[] args) {
    int runs = args.length > 0 ? Integer.parseInt(args[0]) : 1000;
    for (int seed = 0; seed < runs && wrong == 0; seed++) {
      random = new Random(seed);
      log.clear();
      LadderOfRescued x = new LadderOfRescued();
      Model m = new Model();
      int first = random.nextInt(9);
      for (int i = 0; i < first; i++) {
        int a = random.nextInt(60), b = random.nextInt(100000);
        same("person " + a + " " + b, x.person(a, b), m.person(a, b));
      }
      int doors = random.nextInt(9);
      for (int i = 0; i < doors; i++) {
        int p = random.nextInt(8);
        same("door " + p, x.door(p), m.door(p));
      }
      // An object is used for 512 calls at most: nothing below needs more than 63, three times.
      for (int i = 1; log.size() < CALLS - 3 * 63; i++) {
        call(x, m);
        if (i % 40 == 0) state(x, m);
      }
      state(x, m);
      if (log.size() > CALLS) { wrong++; System.out.println("a run of " + log.size() + " calls"); }
    }
    System.out.println(wrong == 0 ? "class and model agree in " + runs + " runs" : "class and model differ");
    if (wrong != 0) System.exit(1);
  }
}
