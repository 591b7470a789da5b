// The bounds that the document's 'Terms' name, sentence by sentence.
public final class TermsTest {
  private static final String REST = ";bears 1;comes 1;";
  private static final String WHOLE = "tall 1;bears 1;comes 1;";

  public static void main(String[] args) {
    people(); feuds(); rustAndSaved();
    rises(); bears(); weighs(); sweeps();
    tape(); texts(); bytes(); words(); digits(); cuts(); brackets(); grammar();
    values(); wraps(); names();
    ladders(); fires(); lots(); images(); sheets();
    calls();
    Due.end("TermsTest");
  }

  // ---- people

  private static void people() {
    Due.of("terms 1", "PEOPLE are numbered from 0 on, 8 at most");
    LadderOfRescued x = Due.anew();
    for (int p = 0; p < 8; p++) Due.is("person", x.person(0, 0), p);
    Due.is("a ninth", x.person(0, 0), -4);
    Due.is("how many", x.count(0), 8);
    Due.is("the last one", x.told(7, 0), 0);
    Due.is("none behind", x.told(8, 0), -5);
    Due.of("terms 1", "with MORE (0 .. 9); HEIGHT (0 .. 99), STRONG (0 .. 999)");
    LadderOfRescued y = Due.anew();
    y.person(0, 0); y.person(59, 99999);
    for (int what = 0; what < 4; what++) Due.is("least " + what, y.told(0, what), 0);
    int[] most = {99, 999, 5, 9};
    for (int what = 0; what < 4; what++) Due.is("most " + what, y.told(1, what), most[what]);
  }

  private static void feuds() {
    Due.of("terms 1", "any two have a FEUD, or none (none as the later one comes)");
    LadderOfRescued x = Due.anew();
    for (int p = 0; p < 8; p++) {
      x.person(0, 0);
      Due.is("none of " + p, x.told(p, 4), 0);
      for (int q = 0; q < p; q++) x.feud(p, q, 1);
      Due.is("all of " + p, x.told(p, 4), (1 << p) - 1);
    }
    for (int p = 0; p < 8; p++) Due.is("any two: " + p, x.told(p, 4), 255 - (1 << p));
    Due.of("terms 1", "none as the later one comes, in the place of one who came since THE IMAGE");
    LadderOfRescued y = Due.anew();
    y.person(0, 0); y.image();
    y.person(0, 0); y.feud(0, 1, 1); y.back(); y.person(0, 0);
    Due.is("the first", y.told(0, 4), 0);
    Due.is("the later one", y.told(1, 4), 0);
    Due.is("what they had", y.feud(0, 1, 0), 0);
  }

  private static void rustAndSaved() {
    Due.of("terms 1", "RUST (winters without a fire, 0 .. 999; 0 at first)");
    LadderOfRescued x = Due.anew();
    Due.is("at first", x.count(2), 0);
    Due.is("999", x.winters(999), 0);
    Due.is("kept", x.count(2), 999);
    Due.of("terms 1", "SAVED: in the order in which they were (nobody at first)");
    Due.is("nobody", x.count(1), 0);
    x.person(0, 0); x.person(0, 0);
    Due.is("who comes isn't", x.told(0, 5), -1);
    x.door(1); x.door(0);
    Due.is("first", x.told(1, 5), 0);
    Due.is("second", x.told(0, 5), 1);
  }

  // ---- kinds

  private static void risesSo(int kind, int more, int height, int rust, int want) {
    LadderOfRescued x = Due.anew();
    Due.who(x, kind, more, height, 0);
    x.winters(rust);
    x.door(0);
    Due.is("kind " + kind + " more " + more + " height " + height + " rust " + rust, x.ladder(0), want);
  }

  private static void rises() {
    for (int kind : new int[] {0, 1, 3}) {
      Due.of("terms 1", "how high one RISES, the text saying so: that (kind " + kind + ")");
      risesSo(kind, 9, 0, 999, 0); risesSo(kind, 9, 1, 0, 1); risesSo(kind, 0, 99, 0, 99);
    }
    Due.of("terms 1", "2 LADY: RISES MORE more");
    risesSo(2, 0, 0, 0, 0); risesSo(2, 9, 0, 0, 9); risesSo(2, 1, 99, 0, 100); risesSo(2, 9, 99, 999, 108);
    Due.of("terms 1", "4 CHILD: RISES half (cut) of what the text says");
    risesSo(4, 9, 0, 0, 0); risesSo(4, 9, 1, 0, 0); risesSo(4, 9, 2, 0, 1); risesSo(4, 0, 3, 0, 1); risesSo(4, 9, 99, 999, 49);
    Due.of("terms 1", "5 SLEEPER: RISES 3 less than the text says, if RUST is above MORE");
    risesSo(5, 0, 50, 0, 50); risesSo(5, 0, 50, 1, 47);
    risesSo(5, 9, 50, 8, 50); risesSo(5, 9, 50, 9, 50); risesSo(5, 9, 50, 10, 47); risesSo(5, 9, 99, 999, 96);
    Due.of("terms 1", "each 0 at least, in the end");
    risesSo(5, 0, 4, 1, 1); risesSo(5, 0, 3, 1, 0); risesSo(5, 0, 2, 1, 0); risesSo(5, 0, 1, 1, 0); risesSo(5, 0, 0, 1, 0);
    risesSo(5, 9, 2, 9, 2);
    // a rung below 0 would lower what stands above it
    LadderOfRescued x = Due.anew();
    Due.who(x, 5, 0, 0, 99); Due.who(x, 0, 0, 10, 99);
    x.winters(1);
    Due.door(x, 0, 1);
    Due.is("with one above", x.ladder(0), 10);
  }

  /** Seven sleepers above one, so heavy together. */
  private static int weakUnder(LadderOfRescued x, int weight) {
    int left = weight;
    for (int p = 1; p < 8; p++) { x.put(p, 0, Math.min(99, left)); left -= Math.min(99, left); }
    return x.stand(0, 1);
  }
  private static void bearsSo(int kind, int more, int strong, int want) {
    LadderOfRescued x = Due.anew();
    Due.who(x, kind, more, 99, strong);
    for (int p = 1; p < 8; p++) Due.who(x, 5, 9, 0, 999);
    Due.ints(x, 0, 0, 1, 2, 3, 4, 5, 6, 7);
    String one = "kind " + kind + " more " + more + " strong " + strong;
    Due.is(one + " bears " + want, weakUnder(x, want), -1);
    Due.is(one + " bears not " + (want + 1), weakUnder(x, want + 1), 0);
  }

  private static void bears() {
    for (int kind : new int[] {0, 5}) {
      Due.of("terms 1", "how much one BEARS, the text saying so much: that (kind " + kind + ")");
      bearsSo(kind, 9, 0, 0); bearsSo(kind, 9, 1, 1); bearsSo(kind, 0, 692, 692);
    }
    Due.of("terms 1", "1 FARMER: BEARS 10 times MORE more");
    bearsSo(1, 0, 0, 0); bearsSo(1, 1, 0, 10); bearsSo(1, 9, 0, 90); bearsSo(1, 9, 602, 692); bearsSo(1, 0, 7, 7);
    Due.of("terms 1", "2 LADY: BEARS half (cut)");
    bearsSo(2, 9, 0, 0); bearsSo(2, 9, 1, 0); bearsSo(2, 9, 2, 1); bearsSo(2, 0, 3, 1); bearsSo(2, 9, 999, 499);
    Due.of("terms 1", "3 CARTWRIGHT (a FARMER): BEARS twice a FARMER's");
    bearsSo(3, 0, 0, 0); bearsSo(3, 0, 1, 2); bearsSo(3, 1, 0, 20); bearsSo(3, 9, 0, 180); bearsSo(3, 9, 256, 692);
    Due.of("terms 1", "4 CHILD (a LADY): whatever isn't told is as of the KIND above (BEARS half)");
    bearsSo(4, 9, 0, 0); bearsSo(4, 9, 1, 0); bearsSo(4, 9, 2, 1); bearsSo(4, 9, 3, 1); bearsSo(4, 9, 999, 499);
  }

  private static void weighsSo(int kind, int height, int want) {
    LadderOfRescued x = Due.anew();
    Due.who(x, 0, 0, 99, 0); Due.who(x, kind, 9, height, 999);
    Due.door(x, 0, 1);
    Due.is("kind " + kind + " height " + height, x.ladder(2), want);
  }

  private static void weighs() {
    for (int kind : new int[] {0, 1, 2}) {
      Due.of("terms 1", "how much one WEIGHS, by HEIGHT: half (cut) of HEIGHT (kind " + kind + ")");
      weighsSo(kind, 0, 0); weighsSo(kind, 1, 0); weighsSo(kind, 2, 1); weighsSo(kind, 3, 1); weighsSo(kind, 99, 49);
    }
    Due.of("terms 1", "3 CARTWRIGHT: WEIGHS 9 more");
    weighsSo(3, 0, 9); weighsSo(3, 1, 9); weighsSo(3, 2, 10); weighsSo(3, 99, 58);
    Due.of("terms 1", "4 CHILD: WEIGHS half (cut) of a LADY's");
    weighsSo(4, 0, 0); weighsSo(4, 1, 0); weighsSo(4, 2, 0); weighsSo(4, 3, 0); weighsSo(4, 4, 1); weighsSo(4, 7, 1); weighsSo(4, 99, 24);
    Due.of("terms 1", "5 SLEEPER: WEIGHS HEIGHT");
    weighsSo(5, 0, 0); weighsSo(5, 1, 1); weighsSo(5, 99, 99);
    Due.of("terms 1", "WEIGHS, by HEIGHT: not by what the text says of tall");
    LadderOfRescued x = Due.anew();
    Due.who(x, 0, 0, 10, 0); Due.who(x, 0, 0, 40, 0);
    Due.door(x, 0, 1);
    Due.law(x, "1", "99", "1");
    Due.is("weight", x.ladder(2), 20);
  }

  /** Every height, every MORE, every RUST about MORE. */
  private static void sweeps() {
    Due.of("terms 1", "KINDS: WEIGHS, every HEIGHT 0 .. 99");
    for (int kind = 0; kind < 6; kind++) {
      LadderOfRescued x = Due.anew();
      Due.who(x, 0, 0, 0, 0); Due.who(x, kind, 5, 0, 0);
      Due.door(x, 0, 1);
      for (int h = 0; h < 100; h++) {
        x.put(1, 0, h);
        int[] weights = {h / 2, h / 2, h / 2, h / 2 + 9, h / 2 / 2, h};
        Due.is("kind " + kind + " height " + h, x.ladder(2), weights[kind]);
      }
    }
    Due.of("terms 1", "KINDS: RISES, every MORE 0 .. 9, RUST 0 .. 11");
    for (int kind = 0; kind < 6; kind++) {
      for (int more = 0; more < 10; more++) {
        LadderOfRescued x = Due.anew();
        Due.who(x, kind, more, 0, 0);
        x.door(0);
        for (int h : new int[] {0, 1, 2, 3, 4, 50, 98, 99}) {
          x.put(0, 0, h);
          for (int rust = 0; rust < 12; rust++) {
            x.winters(rust);
            int sleeps = rust > more ? Math.max(0, h - 3) : h;
            int[] high = {h, h, h + more, h, h / 2, sleeps};
            Due.is("kind " + kind + " more " + more + " height " + h + " rust " + rust, x.ladder(0), high[kind]);
          }
        }
      }
    }
  }

  // ---- texts

  private static void fault(String s, int place) {
    LadderOfRescued x = Due.anew();
    Due.is("text " + s.replace('\n', '/'), Due.read(x, s), place < 0 ? 1 : -100 - place);
    Due.is("the tape behind " + s, x.count(5), 0);
  }
  private static void fits(String s) { fault(s, -1); }
  /** Of an E in a text: the place in it of the fault; -1 none. */
  private static void inE(String e, int place) { fault("tall " + e + REST, place < 0 ? -1 : 5 + place); }

  private static String filled(String head, int size) {
    StringBuilder b = new StringBuilder(head);
    while (b.length() < size) b.append(' ');
    return b.toString();
  }

  private static void tape() {
    Due.of("terms 1", "A TEXT is read from THE TAPE (160 bytes at most)");
    LadderOfRescued x = Due.anew();
    Due.feed(x, filled("", 160));
    Due.is("160", x.count(5), 160);
    Due.is("161", x.feed(1, 32, 0, 0, 0, 0), -4);
    fits(filled(WHOLE, 160));
    fault(filled(WHOLE, 159) + "@", 159);
    fault(filled("", 159) + "@", 159);
    fault(filled("tall 1;bears 1;comes 1", 160), 160);
    fault(filled("", 160), 160);
    fault(filled("tall 1;bears 1;comes", 159) + "1", 160);
    String tail = "1;bears 1;comes 1;";
    fits(filled("tall", 160 - tail.length()) + tail);
    // as many tokens as 160 bytes can hold
    StringBuilder ones = new StringBuilder("tall 1");
    while (ones.length() + REST.length() + 2 <= 160) ones.append("+1");
    Due.is("bytes", ones.length() + REST.length(), 159);
    LadderOfRescued y = Due.anew();
    Due.who(y, 0, 0, 0, 0);
    y.force(Due.read(y, ones + REST));
    Due.is("67 ones", y.asks(0, 0, 0), 1 + (159 - REST.length() - 6) / 2);
    Due.of("terms 1", "the text's size, if it ends too early: also of a text of no byte");
    fault("", 0);
    fault(" ", 1);
  }

  private static void texts() {
    Due.of("terms 1", "TEXTS are numbered from 0 on, 6 at most");
    LadderOfRescued x = Due.anew();
    Due.is("the first stands", x.count(3), 1);
    for (int t = 1; t < 6; t++) Due.is("number", Due.read(x, WHOLE), t);
    Due.is("six", x.count(3), 6);
    Due.is("a seventh", Due.read(x, WHOLE), -4);
    Due.is("six", x.count(3), 6);
    Due.is("the last one is the law", x.force(5), 0);
    Due.is("none behind", x.force(6), -2);
    Due.of("terms 1", "TEXT 0, at first, and THE LAW: tall height ; bears strong ; comes 80 - rust * 5 ;");
    LadderOfRescued y = Due.anew();
    Due.who(y, 0, 0, 99, 999); Due.who(y, 0, 0, 0, 0);
    Due.is("the law", y.count(4), 0);
    Due.is("tall", y.asks(0, 0, 7), 99); Due.is("tall", y.asks(0, 1, 0), 0);
    Due.is("bears", y.asks(1, 0, 7), 999); Due.is("bears", y.asks(1, 1, 0), 0);
    int[] comes = {80, 75, 70};
    for (int rust = 0; rust < 3; rust++) { y.winters(rust); Due.is("comes by rust " + rust, y.asks(2, 0, 0), comes[rust]); }
    y.winters(15); Due.is("comes by rust 15", y.asks(2, 0, 0), 5);
    y.winters(16); Due.is("comes by rust 16", y.asks(2, 0, 0), 0);
    y.winters(17); Due.is("comes by rust 17", y.asks(2, 0, 0), 0);
    y.winters(999); Due.is("comes by rust 999", y.asks(2, 0, 0), 0);
  }

  private static boolean blank(int b) { return b == 32 || b == 10; }

  /** Every byte at each place where another kind of token is due. */
  private static void bytes() {
    for (int b = 0; b < 256; b++) {
      String c = "" + (char) b;
      boolean digit = b >= '0' && b <= '9';
      Due.of("terms 1", "blanks (32, 10) may stand between; a byte that begins none: byte " + b + " ahead of the first WORD");
      fault(c + WHOLE, blank(b) ? -1 : 0);
      Due.of("terms 1", "blanks (32, 10) may stand between; a byte that begins none: byte " + b + " behind the last ;");
      fault(WHOLE + c, blank(b) ? -1 : WHOLE.length());
      Due.of("terms 1", "the first TOKEN that can't stand there: byte " + b + " where a ONE is due");
      inE(c + " 2", blank(b) || b == '-' ? -1 : digit ? 2 : b == '(' ? 3 : 0);
      Due.of("terms 1", "the first TOKEN that can't stand there: byte " + b + " behind a ONE");
      inE("1 " + c + " 2", "+-*<=".indexOf(b) >= 0 ? -1 : blank(b) || b == ';' ? 4 : 2);
      Due.of("terms 1", "the first TOKEN that can't stand there: byte " + b + " behind a part");
      fault("tall 1;" + c + "bears 1;comes 1;", blank(b) ? -1 : 7);
      Due.of("terms 1", "WORDS (as many letters a .. z as stand there): byte " + b + " between two WORDS");
      fault("tall" + c + "height" + REST, blank(b) || b == '-' ? -1 : b == '(' ? 11 : b >= 'a' && b <= 'z' ? 0 : digit ? 5 : 4);
    }
  }

  private static void words() {
    String[] names = {"height", "strong", "rust", "rung", "saved", "more"};
    String[] keys = {"tall", "bears", "comes", "or", "and", "not"};
    for (String name : names) {
      Due.of("terms 1", "NAMES: " + name + "; a WORD that is neither KEY nor NAME");
      inE(name, -1);
      inE(name + "s", 0); inE("s" + name, 0);
      inE(name.substring(1), 0); inE(name.substring(0, name.length() - 1), 0);
      inE(name.toUpperCase(), 0); inE(name.substring(0, 2) + name.substring(1).toUpperCase(), 0);
      inE(name.substring(0, 1) + " " + name.substring(1), 0);
      inE(name + name, 0);
      inE("1 + " + name + "x", 4);
      inE("1 " + name, 2);
      inE(name + name.charAt(0) + " 1", 0);
      Due.of("terms 1", "the first TOKEN that can't stand there: the NAME " + name + " for a KEY");
      fault(name + " 1;bears 1;comes 1;", 0);
      fault("tall 1;" + name + " 1;comes 1;", 7);
      fault("tall 1;bears 1;" + name + " 1;", 15);
    }
    for (String key : keys) {
      Due.of("terms 1", "the first TOKEN that can't stand there: the KEY " + key);
      inE(key, key.equals("not") ? 3 : 0);
      inE("1 " + key, key.equals("or") || key.equals("and") ? 2 + key.length() : 2);
      inE("1 " + key + "x 1", 2);
      fault("tall 1;bears 1;" + key + " 1;", key.equals("comes") ? -1 : 15);
      fault("tall 1;" + key + " 1;comes 1;", key.equals("bears") ? -1 : 7);
      fault(key + " 1;bears 1;comes 1;", key.equals("tall") ? -1 : 0);
    }
    Due.of("terms 1", "TOKENS, each as long as can be: WORDS");
    inE("1 or2", -1); inE("1or 2", -1); inE("1 orheight", 2); inE("1 and(2)", -1); inE("notheight", 0); inE("not(height)", -1);
    inE("not1", -1); inE("notnot 1", 0); inE("heightrust", 0); inE("1or not 0and 2", -1);
  }

  private static void digits() {
    Due.of("terms 1", "NUMBERS (as many digits as stand there; more than 4 are too long)");
    StringBuilder nines = new StringBuilder();
    StringBuilder zeros = new StringBuilder();
    for (int n = 1; n <= 20; n++) {
      nines.append('9'); zeros.append('0');
      inE(nines.toString(), n <= 4 ? -1 : 0);
      inE(zeros.toString(), n <= 4 ? -1 : 0);
      inE("1 + " + nines, n <= 4 ? -1 : 4);
      inE("(" + zeros + "1)", n <= 3 ? -1 : 1);
    }
    inE("12 34", 3); inE("1234 5", 5); inE("1234height", 4); inE("12345height", 0); inE("1234or 1", -1); inE("1+2345*6", -1);
    fault("tall 1;bears 12345;comes 1;", 13);
    fault("tall 1;bears 1;comes 12345;", 21);
    fault("tall 1;bears 1;comes 1;1", 23);
    fault("1", 0); fault("12345", 0);
    Due.of("terms 1", "the first TOKEN that can't stand there, ahead of a later one");
    inE("1 1 12345", 2); inE("12345 1", 0); inE("1 @ 12345", 2); inE("(1 ; @", 3);
  }

  /** Each text that ends ahead of its end. */
  private static void cuts() {
    Due.of("terms 1", "the text's size, if it ends too early; of a WORD that is neither KEY nor NAME");
    String s = "tall (height +12)* - 3<saved ;bears not strong or 1 and more\n; comes 80 - rust*rung = 0 ;";
    fits(s);
    for (int cut = 0; cut < s.length(); cut++) {
      int from = cut;
      boolean inWord = cut > 0 && letter(s.charAt(cut - 1)) && letter(s.charAt(cut));
      while (inWord && from > 0 && letter(s.charAt(from - 1))) from--;
      fault(s.substring(0, cut), from);
      if (!inWord) fault(s.substring(0, cut) + " \n ", cut + 3);
    }
  }
  private static boolean letter(char c) { return c >= 'a' && c <= 'z'; }

  /** All rows of ( , not and - up to six: what may stand five deep, and where the sixth is. */
  private static void openRows(String row, int deep, boolean minus, int closings) {
    StringBuilder end = new StringBuilder("1");
    for (int i = 0; i < closings; i++) end.append(')');
    if (deep == 6) {
      inE(row + end, row.charAt(row.length() - 1) == ' ' ? row.length() - 4 : row.length() - 1);
      return;
    }
    inE(row + end, -1);
    openRows(row + "(", deep + 1, false, closings + 1);
    openRows(row + "-", deep + 1, true, closings);
    if (!minus) openRows(row + "not ", deep + 1, false, closings);
  }

  private static void brackets() {
    Due.of("terms 1", "a ( , a not, a - ahead of a ONE while 5 of these are open");
    openRows("", 0, false, 0);
    Due.of("terms 1", "a ( till its )");
    inE("(((((1)))))+(((((1)))))", -1); inE("(((((1))))+1)", -1); inE("(((((1))))+(1))", -1); inE("(((((1))))+((((1)))))", -1);
    inE("(((((1))))+(((((1))))))", 15); inE("(((((1)+(1)+(1)))))", -1);
    inE("(((((1)+(1)+((1))))))", 13); inE("(((((1<(2))))))", 7); inE("((((1<(2)))))", -1);
    Due.of("terms 1", "a - till what it belongs to ends");
    inE("-----1*-----1", -1); inE("-----1+-----1", -1); inE("-----1*(1)", -1); inE("----(1)*(1)", -1); inE("----(1)*-----1", -1);
    inE("----((1))", 5); inE("-----1*------1", 12); inE("-----(1)", 5); inE("1------1", -1); inE("1-------1", 7);
    Due.of("terms 1", "a - that isn't ahead of a ONE is not one of these");
    inE("(((((1-1)))))", -1); inE("not not not not not 1-1-1-1", -1); inE("(((((1- 1- 1)))))", -1); inE("(((((1--1)))))", 7);
    Due.of("terms 1", "a not till what it belongs to ends");
    inE("not not not not not 1 < (2)", 24); inE("not not not not not (1)", 20); inE("not not not not not 1 + -2", 24);
    inE("not not not not not 1 * (2)", 24); inE("not not not not not 1 = 2 + (2)", 28);
    inE("not not not not not 1 and (2)", -1); inE("not not not not not 1 or (2)", -1);
    inE("not not not not not 1 and not not not not not 1", -1); inE("not not not not not 1 and not not not not not not 1", 46);
    inE("not not not not not 1 or not not not not (1)", -1); inE("not not not not not 1 and (((((1)))))", -1);
    inE("not not not not (1) < (1)", -1); inE("not not not not (1) < ((1))", 23); inE("not not not not (1) + (1) * -1 = - 1", -1);
    inE("not (not (not 1 and not 1) and not not not 1)", -1); inE("not (not (not 1 and not 1) and not not not not 1)", 43);
    Due.of("terms 1", "of open ones each part begins anew");
    fits("tall (((((1)))));bears -----1;comes not not not not not 1;");
    fault("tall (((((1;bears 1;comes 1;", 11);
    fault("tall (((((1)))));bears ------1;comes 1;", 28);
  }

  private static void grammar() {
    Due.of("terms 1", "TEXT: tall E ; bears E ; comes E ;");
    fits(WHOLE); fits("tall1;bears1;comes1;"); fits("\n\n tall\n1\n;\nbears\n1\n;\ncomes\n1\n;\n\n");
    fault("tall;bears 1;comes 1;", 4); fault("tall 1 bears 1;comes 1;", 7); fault("tall 1;;bears 1;comes 1;", 7);
    fault("tall 1;bears 1;comes 1;;", 23); fault(WHOLE + "tall 1;", 23); fault("tall tall 1;", 5); fault("; tall", 0);
    fault("tall 1;comes 1;bears 1;", 7); fault("bears 1;tall 1;comes 1;", 0);
    Due.of("terms 1", "E: AND { or AND }. AND: NOT { and NOT }");
    inE("1 or", 4); inE("1 and", 5); inE("or 1", 0); inE("and 1", 0); inE("1 or or 1", 5); inE("1 and and 1", 6); inE("1 or and 1", 5);
    inE("1 or 2 and 3 or 4 and 5 and 6 or 7", -1); inE("1 or not 2 and not 3", -1);
    Due.of("terms 1", "NOT: not NOT, or SUM, perhaps < or = and a SUM");
    inE("not", 3); inE("1 <", 3); inE("1 =", 3); inE("< 1", 0); inE("= 1", 0); inE("1 < < 2", 4); inE("1 < = 2", 4); inE("1 == 2", 3);
    inE("1 < 2 < 3", 6); inE("1 < 2 = 3", 6); inE("1 = 2 < 3", 6); inE("1 = 2 = 3", 6); inE("not 1 < 2 < 3", 10);
    inE("1 < 2 and 3 < 4 or 5 = 6", -1); inE("(1 < 2) < (3 = 4)", -1); inE("1 < not 2", 4); inE("1 + not 2", 4); inE("1 * not 2", 4);
    inE("1 not 2", 2); inE("1 < 2 not 3", 6);
    Due.of("terms 1", "SUM: TERM { + or - TERM }. TERM: ONE { * ONE }");
    inE("1 +", 3); inE("1 -", 3); inE("1 *", 3); inE("+ 1", 0); inE("* 1", 0); inE("1 + + 2", 4); inE("1 * * 2", 4); inE("1 + * 2", 4);
    inE("1 - - 2", -1); inE("1 + - 2", -1); inE("1 * - 2", -1); inE("1 - + 2", 4); inE("1 - * 2", 4);
    Due.of("terms 1", "ONE: a NUMBER, a NAME, - ONE, ( E )");
    inE("", 0); inE("()", 1); inE("(1", 2); inE("1)", 1); inE("(1))", 3); inE("((1)", 4); inE("-", 1); inE("- -", 3); inE("(-)", 2);
    inE("- not 1", 2); inE("-(not 1)", -1); inE("(1 or 2)", -1); inE("(1 < 2)", -1); inE("(1)(2)", 3); inE("1(2)", 1); inE("height(1)", 6);
    inE("(1) 2", 4); inE("1 height", 2); inE("height rust", 7); inE("(1 2)", 3); inE("(1;2)", 2);
  }

  // ---- what a text says

  private static int says(int part, String e) {
    LadderOfRescued x = Due.anew();
    Due.who(x, 0, 9, 99, 999);
    x.winters(999);
    Due.law(x, part == 0 ? e : "1", part == 1 ? e : "1", part == 2 ? e : "1");
    return x.asks(part, 0, 0);
  }
  private static void saying(String e, int want) {
    int[] most = {99, 999, 100};
    for (int part = 0; part < 3; part++) {
      Due.is("part " + part + " of " + e, says(part, e), Math.max(0, Math.min(most[part], want)));
    }
  }

  private static void values() {
    Due.of("terms 1", "tall 0 .. 99, bears 0 .. 999, comes 0 .. 100, else the bound");
    int[] most = {99, 999, 100};
    for (int part = 0; part < 3; part++) {
      Due.is("most of " + part, says(part, "" + most[part]), most[part]);
      Due.is("1 less of " + part, says(part, "" + (most[part] - 1)), most[part] - 1);
      Due.is("1 more of " + part, says(part, "" + (most[part] + 1)), most[part]);
      Due.is("9999 of " + part, says(part, "9999"), most[part]);
      Due.is("0 of " + part, says(part, "0"), 0);
      Due.is("1 of " + part, says(part, "1"), 1);
      Due.is("-1 of " + part, says(part, "-1"), 0);
      Due.is("-9999 of " + part, says(part, "-9999"), 0);
    }
    Due.of("terms 1", "or, and, not, <, = 1 or 0 (what is not 0 is true)");
    saying("0 or 0", 0); saying("0 or 1", 1); saying("7 or 0", 1); saying("-1 or -2", 1); saying("1 - 1 or 0", 0);
    saying("0 and 0", 0); saying("1 and 0", 0); saying("0 and 7", 0); saying("7 and 8", 1); saying("1 and 2", 1); saying("-1 and -2", 1);
    saying("not 0", 1); saying("not 1", 0); saying("not 7", 0); saying("not -1", 0); saying("not not 0", 0); saying("not not 7", 1);
    saying("2 < 3", 1); saying("3 < 3", 0); saying("3 < 2", 0); saying("-3 < -2", 1); saying("-2 < -3", 0); saying("-1 < 0", 1); saying("0 < -1", 0);
    saying("3 = 3", 1); saying("3 = 2", 0); saying("-3 = -3", 1); saying("3 = -3", 0); saying("0 = -0", 1);
    Due.of("terms 1", "E, AND, NOT, SUM, TERM, ONE: which of them goes ahead");
    saying("1 or 0 and 0", 1); saying("0 and 0 or 1", 1); saying("(1 or 0) and 0", 0); saying("not 1 or 1", 1); saying("not (1 or 1)", 0);
    saying("not 0 and 0", 0); saying("not (0 and 0)", 1); saying("not 1 < 2", 0); saying("(not 1) < 2", 1); saying("not 0 + 1", 0);
    saying("1 < 1 + 1", 1); saying("1 + (1 < 1)", 1); saying("1 = 0 or 1", 1); saying("2 = 1 + 1 and 1", 1);
    saying("2 + 3 * 4", 14); saying("(2 + 3) * 4", 20); saying("2 * 3 + 4", 10); saying("20 - 3 - 4", 13); saying("20 - (3 - 4)", 21);
    saying("20 - 3 + 4", 21); saying("-2 + 5", 3); saying("-(2 + 5) + 8", 1); saying("-2 * -3", 6); saying("5 - -2", 7); saying("--5", 5);
    saying("20 - 2 * 3 * 3", 2); saying("---5 + 6", 1);
  }

  private static void wraps() {
    Due.of("terms 1", "An E is an int (32 bits, wrapping)");
    String least = "4096*4096*128";
    saying(least, 0);
    saying(least + "-1", Due.MAX);
    saying("-(" + least + ")", 0);
    saying("-(" + least + ")-1", Due.MAX);
    saying("0-" + least + "-1", Due.MAX);
    saying(least + "-1+1", 0);
    saying(least + "+" + least, 0);
    saying(least + "+" + least + "+7", 7);
    saying(least + "-" + least + "+7", 7);
    saying("4096*4096*256", 0);
    saying("4096*4096*256+7", 7);
    saying("4096*4096*4096*4096+7", 7);
    saying("9999*9999*9999", 9999 * 9999 * 9999);
    saying("9999*9999*43", 4172747);
    Due.of("terms 1", "(32 bits, wrapping): of or, and, not, <, = 1 or 0 (what is not 0 is true)");
    saying("not 4096*4096*256", 1); saying("4096*4096*256 or 0", 0); saying("4096*4096*256 and 1", 0);
    saying(least + " and " + least, 1); saying("0 or " + least, 1); saying("not " + least, 0);
    saying(least + " < 0", 1); saying("0 < " + least, 0); saying(least + "-1 < 0", 0); saying("0 < " + least + "-1", 1);
    saying(least + " < " + least + "-1", 1); saying(least + "-1 < " + least, 0); saying("4096*4096*256 = 0", 1);
    saying(least + " = -(" + least + ")", 1); saying("1 = 4096*4096*256+1", 1); saying("0 = " + least, 0);
  }

  private static void names() {
    Due.of("terms 1", "of one at a RUNG: height, strong, rust, rung, saved, more: at their least and most");
    LadderOfRescued x = Due.anew();
    Due.law(x, "height", "strong", "more");
    Due.who(x, 0, 0, 0, 0); Due.who(x, 0, 9, 99, 999);
    Due.is("height 0", x.asks(0, 0, 0), 0); Due.is("height 99", x.asks(0, 1, 0), 99);
    Due.is("strong 0", x.asks(1, 0, 0), 0); Due.is("strong 999", x.asks(1, 1, 0), 999);
    Due.is("more 0", x.asks(2, 0, 0), 0); Due.is("more 9", x.asks(2, 1, 0), 9);
    Due.law(x, "rung", "rust", "saved");
    for (int rung = 0; rung < 8; rung++) Due.is("rung " + rung, x.asks(0, 1, rung), rung);
    Due.is("rust 0", x.asks(1, 0, 0), 0);
    x.winters(999);
    Due.is("rust 999", x.asks(1, 0, 0), 999);
    for (int p = 2; p < 8; p++) Due.who(x, 0, 0, 0, 0);
    for (int p = 0; p < 8; p++) { Due.is("saved " + p, x.asks(2, 7, 7 - p), p); x.door(p); }
    Due.is("saved 8", x.asks(2, 0, 0), 8);
  }

  // ---- ladders, fires

  private static void ladders() {
    Due.of("terms 2", "A LADDER of nobody: 0 HIGH, it HOLDS");
    LadderOfRescued x = Due.anew();
    Due.is("high", x.ladder(0), 0); Due.is("holds", x.ladder(1), -1); Due.is("weight", x.ladder(2), 0);
    Due.of("terms 2", "A RUNG doesn't HOLD, if who is there BEARS less than all above WEIGH, together");
    LadderOfRescued y = Due.anew();
    for (int p = 0; p < 8; p++) { Due.who(y, 5, 9, 10, 70 - 10 * p); y.door(p); }
    Due.is("each just so much", y.ladder(1), -1);
    for (int p = 0; p < 7; p++) {
      y.put(p, 1, 69 - 10 * p);
      Due.is("1 less at rung " + p, y.ladder(1), p);
      y.put(p, 1, 70 - 10 * p);
    }
    Due.is("the top bears 0", y.ladder(1), -1);
    y.put(7, 0, 11);
    Due.is("1 more at the top", y.ladder(1), 0);
    for (int p = 0; p < 7; p++) { y.put(p, 1, 71 - 10 * p); Due.is("it rests on rung " + (p + 1), y.ladder(1), p < 6 ? p + 1 : -1); }
    Due.of("terms 2", "or has a FEUD with who is right below");
    for (int rung = 1; rung < 8; rung++) {
      y.feud(rung, rung - 1, 1);
      Due.is("rung " + rung, y.ladder(1), rung);
      y.feud(rung, rung - 1, 0);
    }
    for (int a = 0; a < 8; a++) for (int b = a + 2; b < 8; b++) y.feud(a, b, 1);
    Due.is("none of who is not right below", y.ladder(1), -1);
    Due.of("terms 2", "It HOLDS, if all RUNGS do: the first that doesn't");
    y.feud(7, 6, 1); y.feud(5, 4, 1);
    Due.is("rung 5 ahead of 7", y.ladder(1), 5);
    y.put(4, 1, 0);
    Due.is("rung 4 ahead of 5", y.ladder(1), 4);
    Due.of("terms 2", "It is so HIGH as what each RISES at its RUNG, together; RUNG 0 at the bottom");
    LadderOfRescued z = Due.saved(8, 1, 999);
    Due.law(z, "height * (rung = 7) * 9 + rung", "999 - 999 * (rung = 7)", "1");
    Due.is("rungs 0 to 7", z.ladder(0), 28 + 9);
    Due.is("nothing is above rung 7", z.ladder(1), -1);
    Due.of("terms 2", "Digits of a LADDER: 1 more than each of PEOPLE, RUNG 0 highest");
    LadderOfRescued d = Due.anew();
    for (int p = 0; p < 8; p++) Due.who(d, 0, 0, 1 + p, 999);
    for (int p = 7; p >= 0; p--) d.door(p);
    d.film(0);
    Due.is("8 at rung 0", d.whose(0, 1), 87654321);
    Due.is("one's digit", d.highest(1, 0), 8);
    Due.is("five", d.highest(5, 0), 45678);
  }

  private static void fires() {
    Due.of("terms 2", "A FIRE: if THE LADDER is as HIGH or higher, and HOLDS, that one is SAVED behind all others, and RUST is 0");
    LadderOfRescued x = Due.anew();
    Due.who(x, 0, 0, 50, 25); Due.who(x, 0, 0, 49, 24); Due.who(x, 0, 0, 48, 0); Due.who(x, 0, 0, 2, 0);
    x.winters(999);
    Due.is("nobody, 1 high", x.fire(0, 1), 0); Due.is("rust", x.count(2), 999);
    Due.is("nobody, 0 high", x.fire(0, 0), 1); Due.is("rust", x.count(2), 0);
    x.winters(1);
    Due.is("51", x.fire(1, 51), 0); Due.is("rust", x.count(2), 1); Due.is("not saved", x.told(1, 5), -1);
    Due.is("50", x.fire(1, 50), 1); Due.is("rust", x.count(2), 0); Due.is("behind", x.told(1, 5), 1);
    Due.is("lower", x.fire(2, 98), 1); Due.is("behind", x.told(2, 5), 2);
    x.winters(5);
    Due.is("25 bears not 24 and 24", x.fire(3, 0), 0); Due.is("rust", x.count(2), 5);
    x.put(0, 1, 48);
    Due.is("48 bears them", x.fire(3, 147), 1);
    Due.of("terms 2", "a window so high (0 .. 999)");
    LadderOfRescued y = Due.anew();
    for (int p = 0; p < 8; p++) Due.who(y, 2, 9, 99, 999);
    for (int p = 0; p < 7; p++) y.door(p);
    Due.is("high", y.ladder(0), 756);
    Due.is("999", y.fire(7, 999), 0); Due.is("757", y.fire(7, 757), 0);
    Due.is("1000", y.fire(7, 1000), -7); Due.is("-1", y.fire(7, -1), -7);
    Due.is("756", y.fire(7, 756), 1);
    Due.is("all are saved", y.count(1), 8);
  }

  private static long firstLot(int seed) { return (seed + 1L) * 48271L % 2147483647L; }
  private static int seedOf(int rest) { for (int seed = 0; seed < 99999; seed++) if (firstLot(seed) % 100 == rest) return seed; return -1; }

  private static int comesBy(int seed, int percent) {
    LadderOfRescued x = Due.saved(1, 10, 0);
    Due.law(x, "height", "strong", "" + percent);
    return x.drawn(seed, 2);
  }

  private static void lots() {
    Due.of("terms 2", "one comes, if LOT modulo 100 is less than what comes tells");
    for (int rest : new int[] {0, 1, 50, 98, 99}) {
      int seed = seedOf(rest);
      Due.yes("there is a seed of " + rest, seed >= 0);
      Due.is("comes " + rest + " of " + rest, comesBy(seed, rest), 0);
      Due.is("comes " + (rest + 1) + " of " + rest, comesBy(seed, rest + 1), 1);
      Due.is("comes 100 of " + rest, comesBy(seed, 100), 1);
      Due.is("comes 0 of " + rest, comesBy(seed, 0), 0);
    }
    Due.of("terms 2", "LOTS: the first is (SEED and 1) times 48271 modulo 2147483647, each further one the last times 48271");
    for (int seed : new int[] {0, 1, 44487, 44488, 99998, 99999}) {
      LadderOfRescued x = Due.saved(8, 0, 999);
      Due.law(x, "0", "0", "50");
      long lot = firstLot(seed);
      int n = 0;
      for (int i = 0; i < 8; i++) { if (lot % 100 < 50) n++; lot = lot * 48271L % 2147483647L; }
      Due.is("of eight by seed " + seed, x.drawn(seed, 2), n);
      // which: each is as high as a power of two can tell of six of them
      LadderOfRescued y = Due.anew();
      for (int p = 0; p < 6; p++) { Due.who(y, 0, 0, 1 << p, 999); y.door(p); }
      Due.law(y, "height", "strong", "50");
      lot = firstLot(seed);
      int high = 0;
      for (int i = 0; i < 6; i++) { if (lot % 100 < 50) high += 1 << i; lot = lot * 48271L % 2147483647L; }
      Due.is("who by seed " + seed, y.drawn(seed, 0), high);
    }
    Due.of("terms 2", "of those who are SAVED, in that order, each has a LOT (RUNG: how many are SAVED ahead of that one)");
    for (int rung = 0; rung < 8; rung++) {
      LadderOfRescued z = Due.anew();
      for (int p = 0; p < 8; p++) Due.who(z, 0, 0, 1 + p, 999);
      for (int p = 7; p >= 0; p--) z.door(p);
      Due.law(z, "height", "strong", "(rung = " + rung + ") * 100");
      Due.is("one comes", z.drawn(5, 2), 1);
      Due.is("that at rung " + rung, z.drawn(5, 0), 8 - rung);
    }
    Due.of("terms 2", "those who come are a LADDER, in that order: nobody, all");
    LadderOfRescued n = Due.saved(8, 10, 999);
    Due.law(n, "height", "strong", "0");
    Due.is("nobody", n.drawn(0, 2), 0); Due.is("nobody", n.drawn(0, 0), 0); Due.is("nobody", n.drawn(0, 1), -1);
    Due.law(n, "height", "strong", "100");
    Due.is("all", n.drawn(0, 2), 8); Due.is("all", n.drawn(0, 0), 80); Due.is("all", n.drawn(0, 1), -1);
    n.put(0, 1, 34);
    Due.is("all but bear", n.drawn(0, 1), 0);
    n.put(0, 1, 35);
    Due.is("all bear", n.drawn(0, 1), -1);
  }

  private static void images() {
    Due.of("terms 2", "AN IMAGE keeps HEIGHT, STRONG, FEUDS of all, who is SAVED, in which order, RUST, how many PEOPLE, THE LAW");
    LadderOfRescued x = Due.anew();
    for (int p = 0; p < 8; p++) x.person(10 * (p % 6) + p, 1000 * p + p);
    for (int p = 7; p >= 0; p--) x.door(p);
    x.feud(0, 7, 1); x.winters(999);
    Due.read(x, WHOLE);
    x.force(1);
    x.image();
    for (int p = 0; p < 8; p++) { x.put(p, 0, 99 - p); x.put(p, 1, 999 - p); }
    for (int p = 1; p < 8; p++) x.feud(0, p, p < 7 ? 1 : 0);
    x.winters(0); x.force(0);
    Due.is("people", x.back(), 8);
    for (int p = 0; p < 8; p++) {
      int[] was = {p, p, p % 6, p, p == 0 ? 128 : p == 7 ? 1 : 0, 7 - p};
      for (int what = 0; what < 6; what++) Due.is(what + " of " + p, x.told(p, what), was[what]);
    }
    Due.is("rust", x.count(2), 999); Due.is("the law", x.count(4), 1);
    Due.of("terms 2", "AN IMAGE keeps no more: neither TEXTS, THE TAPE nor SHEETS");
    LadderOfRescued y = Due.anew();
    y.image();
    Due.read(y, WHOLE); Due.feed(y, "tall"); Due.ints(y, 3, 7);
    y.back();
    Due.is("texts", y.count(3), 2); Due.is("tape", y.count(5), 4); Due.is("sheet", y.cell(3, 0, 7), 1); Due.is("its size", y.cell(3, 1, 7), -12);
    Due.is("the tape is read on", y.text(), -104);
    Due.is("the later text may be the law", y.force(1), 0);
  }

  private static void sheets() {
    Due.of("terms 2", "SHEETS 0 .. 3 are rows of numbers, or missing (as all are at first): of sort 0 bytes, 1 shorts, 2 ints, 40 at most");
    LadderOfRescued x = Due.anew();
    for (int s = 0; s < 4; s++) Due.is("missing " + s, x.cell(s, 0, 0), -11);
    Due.is("sheet -1", x.cell(-1, 0, 0), -2); Due.is("sheet 4", x.cell(4, 0, 0), -2);
    for (int s = 0; s < 4; s++) {
      for (int sort = 0; sort < 3; sort++) {
        Due.is("sheet " + s + " sort " + sort, x.sheet(s, sort, 40), 1);
        Due.is("the first", x.cell(s, 0, 1), 1); Due.is("the last", x.cell(s, 39, 1), 1); Due.is("none behind", x.cell(s, 40, 1), -12);
        for (int other = 0; other < 3; other++) Due.is("of sort " + other, x.peopleBy(s, other, 0, 0), other == sort ? 0 : -13);
        Due.is("of no number", x.sheet(s, sort, 0), 1); Due.is("none", x.cell(s, 0, 1), -12);
        Due.is("41", x.sheet(s, sort, 41), -2); Due.is("still of none", x.cell(s, 0, 1), -12);
      }
    }
  }

  private static void calls() {
    Due.of("what it is", "An object is used for at most 512 calls after it has been made: the last of them is as the first");
    LadderOfRescued x = Due.anew();
    for (int i = 0; i < 511; i++) Due.is("call " + (i + 1), x.winters(i + 1), i);
    Due.is("call 512", x.count(2), 511);
    LadderOfRescued y = Due.anew();
    for (int i = 0; i < 170; i++) {
      Due.is("image", y.image(), 0);
      Due.is("one comes", y.person(0, 0), 0);
      Due.is("back", y.back(), 0);
    }
    Due.is("call 511", y.image(), 0); Due.is("call 512", y.person(0, 0), 0);
    LadderOfRescued z = Due.anew();
    for (int i = 0; i < 102; i++) {
      Due.is("fed", z.feed(5, 't', 'a', 'l', 'l', ' '), 5); Due.is("fed", z.feed(1, '1', 0, 0, 0, 0), 6);
      Due.is("a fault", z.text(), -106); Due.is("texts", z.count(3), 1); Due.is("tape", z.count(5), 0);
    }
    Due.is("call 511", z.sheet(0, 2, 40), 1); Due.is("call 512", z.cell(0, 39, 1), 1);
  }
}
