// Counts the answers that are not due and tells, with each, which sentence of the document asks for it.
final class Due {
  static final long NO = LadderOfRescued.NO;
  static final int MIN = Integer.MIN_VALUE, MAX = Integer.MAX_VALUE;
  private static String where = "";
  private static int wrong = 0;
  private static int asked = 0;

  private Due() {}

  /** What is asked from here on is asked for by this sentence. */
  static void of(String where, String sentence) { Due.where = where + ": '" + sentence + "'"; }
  static void of(int promise, String sentence) { of("promise " + promise, sentence); }

  static void is(String call, long got, long want) {
    asked++;
    if (got == want) return;
    wrong++;
    System.out.println(where + ": " + call + " answered " + got + ", due is " + want);
  }
  static void yes(String what, boolean so) { is(what, so ? 1 : 0, 1); }

  static void end(String name) {
    System.out.println(name + ": " + (wrong == 0 ? asked + " answers are as due" : wrong + " answers are not as due"));
    if (wrong != 0) System.exit(1);
  }

  // ---- what many tests do with an object

  static LadderOfRescued anew() { return new LadderOfRescued(); }

  static void feed(LadderOfRescued x, String s) {
    for (int i = 0; i < s.length(); i += 5) {
      int n = Math.min(5, s.length() - i);
      int[] five = new int[5];
      for (int k = 0; k < n; k++) five[k] = s.charAt(i + k);
      x.feed(n, five[0], five[1], five[2], five[3], five[4]);
    }
  }
  static int read(LadderOfRescued x, String s) { feed(x, s); return x.text(); }

  /** A text whose three parts are these becomes the law. */
  static void law(LadderOfRescued x, String tall, String bears, String comes) {
    int t = read(x, "tall " + tall + ";bears " + bears + ";comes " + comes + ";");
    if (t < 0) is("a law of " + tall + ", " + bears + ", " + comes, t, 1);
    x.force(t);
  }

  static int who(LadderOfRescued x, int kind, int more, int height, int strong) {
    return x.person(10 * kind + more, 1000 * height + strong);
  }
  static void door(LadderOfRescued x, int... who) { for (int p : who) x.door(p); }

  /** So many of the kind person, all so high and so strong, saved in the order of their numbers. */
  static LadderOfRescued saved(int n, int height, int strong) {
    LadderOfRescued x = anew();
    for (int p = 0; p < n; p++) { who(x, 0, 0, height, strong); x.door(p); }
    return x;
  }

  static void row(LadderOfRescued x, int s, int sort, int... numbers) {
    x.sheet(s, sort, numbers.length);
    for (int i = 0; i < numbers.length; i++) x.cell(s, i, numbers[i]);
  }
  static void ints(LadderOfRescued x, int s, int... numbers) { row(x, s, 2, numbers); }
}
