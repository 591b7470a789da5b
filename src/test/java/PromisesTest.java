// Each promise of the document by hand: ordinary calls, the edges that it names, wrong calls.
public final class PromisesTest {
  private static final long NO = LadderOfRescued.NO;
  private static final int[] WILD = {Integer.MIN_VALUE, -1000, -2, -1, 1000000, Integer.MAX_VALUE};
  private static int wrong = 0;
  private static int promise = 0;

  private static void due(String call, long got, long want) {
    if (got != want) {
      wrong++;
      System.out.println("promise " + promise + ": " + call + " answered " + got + ", due is " + want);
    }
  }

  private static void feedAll(LadderOfRescued x, String s) {
    for (int i = 0; i < s.length(); i++) x.feed(1, s.charAt(i), 0, 0, 0, 0);
  }
  private static int read(LadderOfRescued x, String s) { feedAll(x, s); return x.text(); }
  /** Reads a text whose tall, bears, comes are these, and makes it the law. */
  private static void law(LadderOfRescued x, String tall, String bears, String comes) {
    x.force(read(x, "tall " + tall + ";bears " + bears + ";comes " + comes + ";"));
  }
  private static int who(LadderOfRescued x, int kind, int more, int height, int strong) {
    return x.person(10 * kind + more, 1000 * height + strong);
  }
  private static void numbers(LadderOfRescued x, int s, int... numbers) {
    x.sheet(s, 2, numbers.length);
    for (int i = 0; i < numbers.length; i++) x.cell(s, i, numbers[i]);
  }
  /** Three of the kind person, heights 10, 20, 40, who bear 100 and are saved in that order. */
  private static LadderOfRescued three() {
    LadderOfRescued x = new LadderOfRescued();
    who(x, 0, 0, 10, 100); who(x, 0, 0, 20, 100); who(x, 0, 0, 40, 100);
    x.door(0); x.door(1); x.door(2);
    return x;
  }

  public static void main(String[] args) {
    newObject(); count(); winters(); feed(); text(); force(); asks(); person(); put(); feud(); told();
    ladder(); stand(); fire(); door();
    highest(); fewest(); missed(); next(); rusts(); come(); reach(); chain();
    judge(); kinds(); heights(); years(); whose(); laws(); film();
    drawn(); odds(); image(); back();
    sheet(); cell(); copy(); peopleBy(); taken();
    System.out.println(wrong == 0 ? "all promises are kept" : wrong + " answers are not as due");
    if (wrong != 0) System.exit(1);
  }

  private static void newObject() {
    promise = 1;
    LadderOfRescued x = new LadderOfRescued();
    int[] counts = {0, 0, 0, 1, 0, 0};
    for (int i = 0; i < 6; i++) due("count " + i, x.count(i), counts[i]);
    due("told", x.told(0, 0), -5);
    due("ladder", x.ladder(0), 0);
    due("back", x.back(), -3);
    for (int s = 0; s < 4; s++) due("cell of sheet " + s, x.cell(s, 0, 0), -11);
    due("NONE", LadderOfRescued.NONE, -1);
    due("BAD", LadderOfRescued.BAD, -2);
    due("STATE", LadderOfRescued.STATE, -3);
    due("FULL", LadderOfRescued.FULL, -4);
    due("NO", NO, -(1L << 62));
    // two objects share nothing
    LadderOfRescued y = new LadderOfRescued();
    who(y, 0, 0, 9, 9); y.door(0); y.winters(4); y.sheet(0, 0, 1);
    due("another's people", x.count(0), 0);
    due("another's sheet", x.cell(0, 0, 0), -11);
  }

  private static void count() {
    promise = 2;
    LadderOfRescued x = new LadderOfRescued();
    who(x, 0, 0, 9, 9); who(x, 1, 1, 9, 9); who(x, 2, 2, 9, 9);
    x.door(1); x.door(2);
    x.winters(7);
    law(x, "1", "2", "3");
    x.feed(4, 1, 2, 3, 4, 5);
    due("people", x.count(0), 3);
    due("saved", x.count(1), 2);
    due("rust", x.count(2), 7);
    due("texts", x.count(3), 2);
    due("the law", x.count(4), 1);
    due("tape", x.count(5), 4);
    due("6", x.count(6), -2);
    for (int w : WILD) due("" + w, x.count(w), -2);
  }

  private static void winters() {
    promise = 3;
    LadderOfRescued x = new LadderOfRescued();
    due("999", x.winters(999), 0);
    due("5", x.winters(5), 999);
    due("1000", x.winters(1000), -2);
    for (int w : WILD) due("" + w, x.winters(w), -2);
    due("what it was", x.winters(0), 5);
    due("rust", x.count(2), 0);
  }

  private static void feed() {
    promise = 4;
    LadderOfRescued x = new LadderOfRescued();
    due("n 0", x.feed(0, 1, 1, 1, 1, 1), -2);
    due("n 6", x.feed(6, 1, 1, 1, 1, 1), -2);
    due("a 256", x.feed(1, 256, 0, 0, 0, 0), -2);
    due("b -1", x.feed(1, 0, -1, 0, 0, 0), -2);
    due("c 256", x.feed(2, 0, 0, 256, 0, 0), -2);
    due("d -1", x.feed(2, 0, 0, 0, -1, 0), -2);
    due("e 256", x.feed(4, 0, 0, 0, 0, 256), -2);
    due("nothing came", x.count(5), 0);
    due("1", x.feed(1, 0, 255, 0, 255, 0), 1);
    due("5", x.feed(5, 255, 255, 255, 255, 255), 6);
    for (int i = 0; i < 30; i++) x.feed(5, 1, 2, 3, 4, 5);
    due("156", x.count(5), 156);
    due("no room for 5", x.feed(5, 1, 2, 3, 4, 5), -4);
    due("none came", x.count(5), 156);
    due("room for 4", x.feed(4, 1, 2, 3, 4, 5), 160);
    due("full", x.feed(1, 1, 2, 3, 4, 5), -4);
    due("bad ahead of full", x.feed(1, 256, 2, 3, 4, 5), -2);
    // the order of the five is the tape's
    LadderOfRescued y = new LadderOfRescued();
    y.feed(5, 't', 'a', 'l', 'l', '5'); y.feed(3, ';', 'b', 'e', 'x', 'x'); y.feed(5, 'a', 'r', 's', '6', ';');
    y.feed(5, 'c', 'o', 'm', 'e', 's'); y.feed(2, '7', ';', 0, 0, 0);
    due("its text", y.text(), 1);
    y.force(1); who(y, 0, 0, 1, 1);
    due("tall", y.asks(0, 0, 0), 5);
    due("bears", y.asks(1, 0, 0), 6);
    due("comes", y.asks(2, 0, 0), 7);
  }

  private static void fault(String s, int place) {
    LadderOfRescued x = new LadderOfRescued();
    due("text " + s, read(x, s), place < 0 ? 1 : -100 - place);
    due("tape after " + s, x.count(5), 0);
    due("texts after " + s, x.count(3), place < 0 ? 2 : 1);
  }
  private static final String REST = ";bears 1;comes 1;";
  private static void inTall(String e, int place) { fault("tall " + e + REST, place < 0 ? place : 5 + place); }

  private static void text() {
    promise = 5;
    fault("tall height ; bears strong ; comes 80 - rust * 5 ;", -1);
    fault(" \n tall\n1;bears 2;comes 3;\n ", -1);
    fault("tall1;bears2;comes3;", -1);
    fault("", 0);
    fault("  ", 2);
    fault("tall", 4);
    fault("tall \n", 6);
    fault("tall 1;bears 2;comes 3", 22);
    fault("tall 1;bears 2;comes 3 ", 23);
    fault("tall 1;bears 2;", 15);
    fault("tall 1;bears 2;comes 3;;", 23);
    fault("tall 1;bears 2;comes 3; tall", 24);
    fault("tall 1;bears 2;comes 3; @", 24);
    fault("bears 1;", 0);
    fault("tall 1;comes 1;", 7);
    fault("tal 1;", 0);
    fault("tallx 1;", 0);
    fault("tallz 1;", 0);
    fault("ztall 1;", 0);
    fault("zall 1;", 0);
    inTall("zeight", 0);
    fault("tall{1;", 4);
    fault("tall`1;", 4);
    fault("tall/1;", 4);
    fault("tall:1;", 4);
    fault("Tall 1;", 0);
    fault("\ttall 1;", 0);
    inTall("1234", -1);
    inTall("0000", -1);
    inTall("12345", 0);
    inTall("00001", 0);
    inTall("1 + 99999999999999999999", 4);
    inTall("height strong", 7);
    inTall("height5", 6);
    inTall("5height", 1);
    inTall("heights", 0);
    inTall("", 0);
    inTall("1 +", 3);
    inTall("1 + * 2", 4);
    inTall("+ 1", 0);
    inTall("1 < 2 < 3", 6);
    inTall("1 = 2 = 3", 6);
    inTall("1 < 2 = 3", 6);
    inTall("(1 < 2) = 1", -1);
    inTall("1 < not 2", 4);
    inTall("1 + not 2", 4);
    inTall("- not 2", 2);
    inTall("not 1 and not not 0 or not 3", -1);
    inTall("1 and or 2", 6);
    inTall("tall", 0);
    inTall("and", 0);
    inTall("(1", 2);
    inTall("1)", 1);
    inTall("()", 1);
    inTall("1 % 2", 2);
    inTall("1 \u00ff", 2);
    // a line, a blank may stand anywhere between, nothing else
    inTall("1\n+\n2", -1);
    inTall("1\r+ 2", 1);
    // five open
    inTall("(((((1)))))", -1);
    inTall("((((((1))))))", 5);
    inTall("not not not not not 1", -1);
    inTall("not not not not not not 1", 20);
    inTall("-----1", -1);
    inTall("------1", 5);
    inTall("not(-(-1))", -1);
    inTall("not(-(-(1)))", 7 - 1 + 1);
    inTall("not(-(-(2)))+(1)", 7);
    inTall("((((-1))))", -1);
    inTall("(((((-1)))))", 5);
    inTall("(((((1-1)))))", -1);
    inTall("not((((not 1))))", 7);
    inTall("((((not 1))))", -1);
    inTall("(((((not 1)))))", 5);
    inTall("(1)+(1)+(1)+(1)+(1)+(1)+(1)", -1);
    inTall("-1*-1*-1*-1*-1*-1*-1", -1);
    inTall("((((-1*-1+-1))))", -1);
    inTall("not 1 and not 1 and not 1 and not 1 and not 1 and not 1", -1);
    inTall("(((((@)))))", 5);
    // full
    LadderOfRescued x = new LadderOfRescued();
    for (int t = 1; t < 6; t++) due("number", read(x, "tall 1;bears 2;comes 3;"), t);
    due("full", read(x, "tall 1;bears 2;comes 3;"), -4);
    due("the tape stays", x.count(5), 23);
    due("full ahead of the fault", read(x, "@"), -4);
    due("texts", x.count(3), 6);
    // a text of 160 bytes
    StringBuilder long160 = new StringBuilder("tall  ");
    while (long160.length() < 160 - 1 - REST.length()) long160.append("1+");
    due("bytes of a long text", long160.length() + 1 + REST.length(), 160);
    fault(long160 + "1" + REST, -1);
    // what stood on the tape before is not there any more
    LadderOfRescued z = new LadderOfRescued();
    due("a long number", read(z, "tall 12345;"), -105);
    due("a short one, then the end", read(z, "tall 1234"), -109);
    due("a long word", read(z, "tallness"), -100);
    due("a short one, then the end", read(z, "tall"), -104);
    // a fault changes neither the texts nor the law
    LadderOfRescued y = new LadderOfRescued();
    law(y, "7", "8", "9"); read(y, "tall 1;bears 2;comes 3");
    who(y, 0, 0, 1, 1);
    due("the law after a fault", y.asks(0, 0, 0), 7);
  }

  private static void force() {
    promise = 6;
    LadderOfRescued x = new LadderOfRescued();
    who(x, 0, 0, 50, 60);
    due("none such", x.force(1), -2);
    read(x, "tall 11;bears 12;comes 13;");
    read(x, "tall 21;bears 22;comes 23;");
    due("reading forces nothing", x.asks(0, 0, 0), 50);
    due("2", x.force(2), 0);
    due("tall", x.asks(0, 0, 0), 21);
    due("1", x.force(1), 2);
    due("comes", x.asks(2, 0, 0), 13);
    due("3", x.force(3), -2);
    for (int w : WILD) due("" + w, x.force(w), -2);
    due("0", x.force(0), 1);
    due("bears", x.asks(1, 0, 0), 60);
  }

  /** What an E is, by three parts that cut it differently. */
  private static void value(String e, int want) {
    LadderOfRescued x = new LadderOfRescued();
    who(x, 0, 4, 50, 600); who(x, 0, 0, 1, 1);
    x.door(1);
    x.winters(30);
    law(x, e, e, e);
    due("a text of " + e, x.count(4), 1);
    due("tall " + e, x.asks(0, 0, 3), Math.max(0, Math.min(99, want)));
    due("bears " + e, x.asks(1, 0, 3), Math.max(0, Math.min(999, want)));
    due("comes " + e, x.asks(2, 0, 3), Math.max(0, Math.min(100, want)));
  }

  /** What an E is that is too long to stand thrice in a text. */
  private static void once(String e, int want) {
    LadderOfRescued x = new LadderOfRescued();
    who(x, 0, 4, 50, 600);
    law(x, "1", e, "1");
    due("a text of " + e, x.count(4), 1);
    due("bears " + e, x.asks(1, 0, 3), want);
  }

  private static void asks() {
    promise = 7;
    value("height", 50); value("strong", 600); value("rust", 30); value("rung", 3); value("saved", 1); value("more", 4);
    value("7", 7); value("0", 0); value("9999", 9999); value("0012", 12); value("100", 100); value("99", 99); value("-1", -1);
    value("1 + 2 * 3", 7); value("(1 + 2) * 3", 9); value("9 - 3 - 2", 4); value("9 - (3 - 2)", 8); value("2 * 3 * 4", 24);
    value("9 - 3 + 2", 8);
    value("- 3 + 10", 7); value("10 - - 3", 13); value("- - 5", 5); value("5 * - 2 + 30", 20); value("--- 5 + 6", 1);
    value("2 < 3", 1); value("3 < 3", 0); value("3 < 2", 0); value("3 = 3", 1); value("3 = 4", 0); value("-1 < 0", 1);
    value("1 + 1 < 3", 1); value("5 = 2 + 3", 1);
    value("not 0", 1); value("not 7", 0); value("not not 7", 1); value("not 1 < 2", 0); value("not 2 = 3", 1);
    value("2 and 4", 1); value("2 and 0", 0); value("0 and 2", 0); value("0 or 9", 1); value("9 or 0", 1); value("0 or 0", 0);
    value("-1 and -1", 1);
    value("1 or 1 and 0", 1); value("(1 or 1) and 0", 0); value("0 and 0 or 1", 1); value("1 and 2 and 3", 1); value("0 or 0 or 5", 1);
    value("not 0 and 0", 0); value("not (0 and 0)", 1);
    value("9999 * 9999 * 9999", 9999 * 9999 * 9999);
    value("0 - 9999 * 9999 * 9999", -(9999 * 9999 * 9999));
    value("9999 * 9999 * 22 < 0", 1);
    value("(2 < 3) * 5 + (3 < 2) * 7", 5);
    value("1+1+1+1+1+1+1+1+1-1+1", 9);
    value("2*1*1*1*1*1*1*1*1*1*3", 6);
    value("0 or 0 or 0 or 0 or 0 or 0 or 0 or 0 or 0 or 2", 1);
    once("1 and 1 and 1 and 1 and 1 and 1 and 1 and 1 and 1 and 0", 0);
    // as many wait for another as can
    once("0or 1and 0<1+1*(0or 1and 0<1+1*(0or 1and 0<1+1*(0or 1and 0<1+1*(0or 1and 0<1+1*(0or 1and 0<1+2*3)))))", 1);
    once("1+2*(1+2*(1+2*(1+2*(1+2*(1+2*1)))))", 127);
    LadderOfRescued x = new LadderOfRescued();
    due("nobody", x.asks(0, 0, 0), -2);
    who(x, 4, 9, 80, 700);
    due("a child's tall is not halved", x.asks(0, 0, 0), 80);
    due("a child's bears is not halved", x.asks(1, 0, 0), 700);
    due("comes", x.asks(2, 0, 0), 80);
    x.winters(15);
    due("comes after 15 winters", x.asks(2, 0, 0), 5);
    x.winters(17);
    due("comes after 17 winters", x.asks(2, 0, 0), 0);
    due("rung 7", x.asks(0, 0, 7), 80);
    due("rung 8", x.asks(0, 0, 8), -2);
    due("part 3", x.asks(3, 0, 0), -2);
    due("nobody", x.asks(0, 1, 0), -2);
    for (int w : WILD) {
      due("part " + w, x.asks(w, 0, 0), -2);
      due("p " + w, x.asks(0, w, 0), -2);
      due("rung " + w, x.asks(0, 0, w), -2);
    }
  }

  private static void person() {
    promise = 8;
    LadderOfRescued x = new LadderOfRescued();
    due("60", x.person(60, 0), -2);
    due("100000", x.person(0, 100000), -2);
    for (int w : WILD) {
      due("kind, more " + w, x.person(w, 0), -2);
      due("height, strong " + w, x.person(0, w), -2);
    }
    due("nobody came", x.count(0), 0);
    due("least", x.person(0, 0), 0);
    due("most", x.person(59, 99999), 1);
    due("kind", x.told(1, 2), 5); due("more", x.told(1, 3), 9);
    due("height", x.told(1, 0), 99); due("strong", x.told(1, 1), 999);
    due("another", x.person(37, 12034), 2);
    due("kind", x.told(2, 2), 3); due("more", x.told(2, 3), 7);
    due("height", x.told(2, 0), 12); due("strong", x.told(2, 1), 34);
    for (int p = 3; p < 8; p++) due("person", x.person(0, 0), p);
    due("full", x.person(0, 0), -4);
    due("bad ahead of full", x.person(60, 0), -2);
    due("people", x.count(0), 8);
  }

  private static void put() {
    promise = 9;
    LadderOfRescued x = new LadderOfRescued();
    due("nobody", x.put(0, 0, 0), -5);
    who(x, 2, 3, 40, 500); who(x, 0, 0, 1, 2);
    due("height", x.put(0, 0, 99), 40);
    due("strong", x.put(0, 1, 999), 500);
    due("height again", x.put(0, 0, 0), 99);
    due("strong again", x.put(0, 1, 0), 999);
    due("height 100", x.put(0, 0, 100), -7);
    due("height -1", x.put(0, 0, -1), -7);
    due("strong 1000", x.put(0, 1, 1000), -7);
    due("strong -1", x.put(0, 1, -1), -7);
    due("what 2", x.put(0, 2, 1), -7);
    due("what -1", x.put(0, -1, 1), -7);
    due("nobody ahead of what", x.put(2, 2, -1), -5);
    for (int w : WILD) { due("p " + w, x.put(w, 0, 0), -5); due("v " + w, x.put(0, 1, w), -7); }
    due("height", x.told(0, 0), 0); due("strong", x.told(0, 1), 0);
    due("another's", x.told(1, 0), 1); due("another's", x.told(1, 1), 2);
  }

  private static void feud() {
    promise = 10;
    LadderOfRescued x = new LadderOfRescued();
    who(x, 0, 0, 1, 1); who(x, 0, 0, 1, 1); who(x, 0, 0, 1, 1);
    due("0 1", x.feud(0, 1, 1), 0);
    due("1 0", x.feud(1, 0, 1), 1);
    due("2 0", x.feud(2, 0, 1), 0);
    due("bits of 0", x.told(0, 4), 6); due("bits of 1", x.told(1, 4), 1); due("bits of 2", x.told(2, 4), 1);
    due("none any more", x.feud(1, 0, 0), 1);
    due("none", x.feud(0, 1, 0), 0);
    due("bits of 0", x.told(0, 4), 4); due("bits of 1", x.told(1, 4), 0);
    due("one and the same", x.feud(1, 1, 1), -5);
    due("nobody", x.feud(0, 3, 1), -5);
    due("nobody", x.feud(3, 0, 1), -5);
    due("nobody ahead of is", x.feud(0, 3, 2), -5);
    due("is 2", x.feud(0, 1, 2), -7);
    due("is -1", x.feud(0, 1, -1), -7);
    for (int w : WILD) { due("a " + w, x.feud(w, 0, 0), -5); due("b " + w, x.feud(0, w, 0), -5); due("is " + w, x.feud(0, 1, w), -7); }
    who(x, 0, 0, 1, 1);
    due("none as the later one comes", x.told(3, 4), 0);
  }

  private static void told() {
    promise = 11;
    LadderOfRescued x = new LadderOfRescued();
    due("nobody", x.told(0, 9), -5);
    who(x, 3, 7, 45, 678); who(x, 1, 2, 3, 4); who(x, 5, 0, 0, 0);
    x.door(2); x.door(0);
    x.feud(0, 2, 1);
    int[] first = {45, 678, 3, 7, 4, 1};
    int[] second = {3, 4, 1, 2, 0, -1};
    int[] third = {0, 0, 5, 0, 1, 0};
    for (int i = 0; i < 6; i++) {
      due("0 " + i, x.told(0, i), first[i]);
      due("1 " + i, x.told(1, i), second[i]);
      due("2 " + i, x.told(2, i), third[i]);
    }
    due("what 6", x.told(0, 6), -7);
    due("nobody", x.told(3, 0), -5);
    for (int w : WILD) { due("p " + w, x.told(w, 0), -5); due("what " + w, x.told(0, w), -7); }
  }

  /** One alone on the ladder: how high that one is, and from which weight above on the rung doesn't hold. */
  private static void alone(int kind, int more, int height, int strong, int rust, int high, int bears, int weighs) {
    LadderOfRescued x = new LadderOfRescued();
    who(x, kind, more, height, strong);
    x.winters(rust);
    x.door(0);
    String one = "kind " + kind + " more " + more + " height " + height + " rust " + rust;
    due(one + " rises", x.ladder(0), high);
    due(one + " has nothing above", x.ladder(2), 0);
    due(one + " holds", x.ladder(1), -1);
    // sleepers weigh their height: it loads what is below exactly
    LadderOfRescued y = new LadderOfRescued();
    who(y, kind, more, height, strong);
    for (int p = 1; p < 8; p++) who(y, 5, 0, 0, 0);
    int left = bears;
    for (int p = 1; p < 8; p++) { y.put(p, 0, Math.min(99, left)); y.put(p, 1, 999); left -= Math.min(99, left); }
    numbers(y, 0, 0, 1, 2, 3, 4, 5, 6, 7);
    if (left == 0) {
      due(one + " bears", y.stand(0, 1), -1);
      for (int p = 1; p < 8; p++) if (y.told(p, 0) < 99) { y.put(p, 0, y.told(p, 0) + 1); break; }
      due(one + " bears no more", y.stand(0, 1), bears + 1 > 7 * 99 ? -1 : 0);
    }
    LadderOfRescued z = new LadderOfRescued();
    who(z, 0, 0, 0, 999); who(z, kind, more, height, strong);
    z.door(0); z.door(1);
    due(one + " weighs", z.ladder(2), weighs);
  }

  private static void ladder() {
    promise = 12;
    LadderOfRescued x = new LadderOfRescued();
    due("nobody", x.ladder(0), 0); due("nobody", x.ladder(1), -1); due("nobody", x.ladder(2), 0);
    due("what 3", x.ladder(3), -2);
    for (int w : WILD) due("what " + w, x.ladder(w), -2);
    alone(0, 9, 41, 77, 999, 41, 77, 20);
    alone(1, 9, 41, 77, 0, 41, 167, 20);
    alone(1, 0, 40, 50, 0, 40, 50, 20);
    alone(2, 9, 41, 77, 0, 50, 38, 20);
    alone(2, 9, 99, 77, 0, 108, 38, 49);
    alone(3, 9, 41, 77, 0, 41, 334, 29);
    alone(3, 1, 40, 0, 0, 40, 20, 29);
    alone(4, 9, 43, 77, 0, 21, 38, 10);
    alone(4, 9, 42, 1, 0, 21, 0, 10);
    alone(5, 4, 41, 77, 4, 41, 77, 41);
    alone(5, 4, 41, 77, 5, 38, 77, 41);
    alone(5, 0, 2, 77, 1, 0, 77, 2);
    // weights of all above, and the first of rungs that don't hold
    LadderOfRescued y = new LadderOfRescued();
    who(y, 0, 0, 60, 45); who(y, 0, 0, 50, 20); who(y, 0, 0, 40, 0);
    y.door(0); y.door(1); y.door(2);
    due("high", y.ladder(0), 150);
    due("weight", y.ladder(2), 45);
    due("all but bear", y.ladder(1), -1);
    y.put(1, 1, 19);
    due("rung 1", y.ladder(1), 1);
    y.put(0, 1, 44);
    due("rung 0 first", y.ladder(1), 0);
    y.put(0, 1, 999); y.put(1, 1, 999);
    y.feud(0, 2, 1);
    due("a feud two rungs below", y.ladder(1), -1);
    y.feud(1, 2, 1);
    due("a feud right below", y.ladder(1), 2);
    y.feud(0, 1, 1);
    due("the upper one's rung", y.ladder(1), 1);
    // rung and how many are saved
    LadderOfRescued z = three();
    law(z, "rung * 10 + saved", "100 - rung * 90", "1");
    due("by rung", z.ladder(0), 39);
    due("bears by rung", z.ladder(1), 1);
  }

  private static void stand() {
    promise = 13;
    LadderOfRescued x = three();
    who(x, 0, 0, 99, 5);
    due("sheet 4", x.stand(4, 0), -2);
    for (int w : WILD) due("sheet " + w, x.stand(w, 0), -2);
    due("missing", x.stand(0, 9), -11);
    numbers(x, 0);
    due("nobody", x.stand(0, 0), 0); due("nobody", x.stand(0, 1), -1); due("nobody", x.stand(0, 2), 0);
    numbers(x, 0, 3, 0, 2);
    due("high", x.stand(0, 0), 149);
    due("weak", x.stand(0, 1), 0);
    due("weight", x.stand(0, 2), 25);
    numbers(x, 0, 0, 3);
    due("holds", x.stand(0, 1), -1);
    x.feud(0, 3, 1);
    due("a feud", x.stand(0, 1), 1);
    due("what 3", x.stand(0, 3), -7);
    for (int w : WILD) due("what " + w, x.stand(0, w), -7);
    numbers(x, 0, 0, 1, 0);
    due("twice, ahead of what", x.stand(0, 3), -2);
    numbers(x, 0, 0, 4);
    due("none such", x.stand(0, 0), -2);
    numbers(x, 0, -1);
    due("none such", x.stand(0, 0), -2);
    numbers(x, 0, 0, 1, 2, 3, 4, 5, 6, 7, 8);
    due("more than 8", x.stand(0, 0), -2);
    x.sheet(1, 0, 2); x.cell(1, 0, 256 + 2); x.cell(1, 1, 1);
    due("bytes", x.stand(1, 0), 60);
    law(x, "saved * 10 + rung", "1", "1");
    due("saved is how many are saved", x.stand(1, 0), 61);
  }

  private static void fire() {
    promise = 14;
    LadderOfRescued x = new LadderOfRescued();
    due("nobody", x.fire(0, 5000), -5);
    who(x, 0, 0, 30, 20); who(x, 0, 0, 41, 20); who(x, 0, 0, 20, 20); who(x, 0, 0, 9, 0);
    x.winters(10);
    due("1 too high", x.fire(0, 1), 0);
    due("rust stays", x.count(2), 10);
    due("0", x.fire(0, 0), 1);
    due("rust is 0", x.count(2), 0);
    due("saved already", x.fire(0, 0), -3);
    due("window ahead of saved", x.fire(0, 1000), -7);
    due("window -1", x.fire(1, -1), -7);
    due("window 1000", x.fire(1, 1000), -7);
    due("31", x.fire(1, 31), 0);
    due("30", x.fire(1, 30), 1);
    due("at the top", x.told(1, 5), 1);
    due("it doesn't hold: a man of 41 weighs 20", x.ladder(1), -1);
    x.put(0, 1, 19);
    due("it doesn't hold", x.fire(2, 0), 0);
    x.put(0, 1, 20);
    due("it holds", x.fire(2, 71), 1);
    due("saved", x.count(1), 3);
    for (int w : WILD) { due("p " + w, x.fire(w, 0), -5); due("window " + w, x.fire(3, w), -7); }
    x.put(0, 1, 999); x.feud(0, 1, 1);
    due("a feud", x.fire(3, 0), 0);
    x.feud(0, 1, 0);
    due("91 high", x.fire(3, 91), 1);
    due("all saved", x.count(1), 4);
  }

  private static void door() {
    promise = 15;
    LadderOfRescued x = new LadderOfRescued();
    due("nobody", x.door(0), -5);
    for (int p = 0; p < 8; p++) who(x, 0, 0, 9, 0);
    x.winters(12);
    int[] order = {4, 0, 7, 1, 2, 6, 5, 3};
    for (int i = 0; i < 8; i++) {
      due("door", x.door(order[i]), i + 1);
      due("again", x.door(order[i]), -3);
      due("rung", x.told(order[i], 5), i);
    }
    due("rust stays", x.count(2), 12);
    for (int w : WILD) due("p " + w, x.door(w), -5);
    due("8", x.door(8), -5);
  }

  private static void highest() {
    promise = 16;
    LadderOfRescued x = three();
    int[] digits = {-1, 3, 23, 123, 123, 123};
    int[] high = {0, 40, 60, 70, 70, 70};
    for (int n = 0; n < 6; n++) { due("digits " + n, x.highest(n, 0), digits[n]); due("high " + n, x.highest(n, 1), high[n]); }
    due("n 6", x.highest(6, 0), -2);
    due("what 2", x.highest(0, 2), -2);
    for (int w : WILD) { due("n " + w, x.highest(w, 0), -2); due("what " + w, x.highest(0, w), -2); }
    // only who is saved
    who(x, 0, 0, 99, 999);
    due("who isn't saved", x.highest(1, 0), 3);
    // a feud, strength
    x.feud(1, 2, 1);
    due("a feud", x.highest(2, 0), 13);
    due("a feud", x.highest(3, 0), 213);
    x.put(0, 1, 0); x.put(1, 1, 0);
    due("who bears", x.highest(3, 0), 31);
    x.put(2, 1, 5);
    due("who bears just that", x.highest(3, 0), 31);
    x.put(2, 1, 4);
    due("who bears less", x.highest(3, 0), 3);
    // of like ones the first, the shorter ahead of what goes on from it
    LadderOfRescued y = new LadderOfRescued();
    who(y, 0, 0, 5, 99); who(y, 0, 0, 5, 99); who(y, 0, 0, 0, 99);
    due("nobody", y.highest(5, 0), -1);
    y.door(2);
    due("none is higher than 0", y.highest(5, 0), -1);
    y.door(1); y.door(0);
    due("the least number", y.highest(1, 0), 1);
    due("the shorter", y.highest(5, 0), 12);
    // by rung
    law(y, "(rung = 4) * 9 + (rung = 1) * 2", "99", "1");
    due("the fifth is not there", y.highest(5, 0), 12);
    // at most five
    LadderOfRescued z = new LadderOfRescued();
    for (int p = 0; p < 8; p++) who(z, 0, 0, 10 + p, 999);
    for (int p = 7; p >= 0; p--) z.door(p);
    due("five of eight", z.highest(5, 0), 45678);
    due("five of eight", z.highest(5, 1), 75);
    due("four of eight", z.highest(4, 0), 5678);
    law(z, "rung = 4", "999", "1");
    due("the fifth rung", z.highest(4, 0), -1);
    due("the fifth rung", z.highest(5, 0), 12345);
  }

  private static void fewest() {
    promise = 17;
    LadderOfRescued x = three();
    int[] windows = {0, 1, 40, 41, 60, 61, 70, 71, 999};
    int[] dues = {0, 1, 1, 2, 2, 3, 3, -1, -1};
    for (int i = 0; i < windows.length; i++) due("" + windows[i], x.fewest(windows[i]), dues[i]);
    due("1000", x.fewest(1000), -2);
    for (int w : WILD) due("" + w, x.fewest(w), -2);
    LadderOfRescued y = new LadderOfRescued();
    for (int p = 0; p < 8; p++) { who(y, 0, 0, 10, 999); y.door(p); }
    due("five", y.fewest(50), 5);
    due("six are too many", y.fewest(51), -1);
  }

  private static void missed() {
    promise = 18;
    LadderOfRescued x = three();
    due("who", x.missed(0), 2);
    due("how high", x.missed(1), 30);
    due("what 2", x.missed(2), -2);
    for (int w : WILD) due("what " + w, x.missed(w), -2);
    LadderOfRescued y = new LadderOfRescued();
    due("nobody", y.missed(0), -1); due("nobody", y.missed(1), 0);
    who(y, 0, 0, 10, 999);
    due("nobody saved", y.missed(0), -1);
    y.door(0);
    due("the only one", y.missed(0), 0); due("the only one", y.missed(1), 0);
    for (int p = 1; p < 6; p++) who(y, 0, 0, 10, 999);
    for (int p = 5; p > 0; p--) y.door(p);
    due("of like ones the first saved", y.missed(0), 0);
    due("of four or fewer", y.missed(1), 40);
    // the bearer is missed, not the tallest
    LadderOfRescued z = new LadderOfRescued();
    who(z, 0, 0, 40, 0); who(z, 0, 0, 35, 999); who(z, 0, 0, 10, 0);
    z.door(0); z.door(1); z.door(2);
    due("who bears", z.missed(0), 1); due("how high", z.missed(1), 40);
    due("it is as it was", z.count(1), 3);
  }

  private static void next() {
    promise = 19;
    LadderOfRescued x = new LadderOfRescued();
    due("nobody", x.next(0), -1); due("nobody", x.next(1), 0);
    who(x, 0, 0, 20, 15); who(x, 0, 0, 30, 0); who(x, 0, 0, 30, 0); who(x, 0, 0, 40, 0); who(x, 0, 0, 5, 0);
    due("the tallest", x.next(0), 3); due("how high", x.next(1), 40);
    x.door(0);
    due("the first of like ones", x.next(0), 1); due("how high", x.next(1), 50);
    x.put(0, 1, 14);
    due("who is light", x.next(0), 4); due("how high", x.next(1), 25);
    x.feud(0, 4, 1);
    due("none", x.next(0), -1); due("as it is", x.next(1), 20);
    due("what 2", x.next(2), -2);
    for (int w : WILD) due("what " + w, x.next(w), -2);
    x.put(0, 1, 15);
    x.feud(0, 1, 1);
    due("the next of like ones", x.next(0), 2);
    // one who rises nothing may be next too
    LadderOfRescued y = new LadderOfRescued();
    who(y, 0, 0, 0, 0);
    due("0 high", y.next(0), 0); due("0 high", y.next(1), 0);
    due("nobody was saved", y.count(1), 0);
  }

  private static void rusts() {
    promise = 20;
    LadderOfRescued x = new LadderOfRescued();
    who(x, 0, 0, 50, 0); x.door(0);
    law(x, "60 - rust", "1", "1");
    due("60", x.rusts(60), 1);
    due("61", x.rusts(61), 0);
    due("1", x.rusts(1), 60);
    due("0", x.rusts(0), -1);
    x.winters(20);
    due("20 winters on", x.rusts(1), 40);
    due("rust stays", x.count(2), 20);
    due("1000", x.rusts(1000), -2);
    for (int w : WILD) due("" + w, x.rusts(w), -2);
    law(x, "99 - (99 < rust) * 99", "1", "1");
    x.winters(0);
    due("99 winters are too few", x.rusts(50), -1);
    x.winters(1);
    due("99 winters", x.rusts(50), 99);
    law(x, "99 - (999 < rust) * 99", "1", "1");
    x.winters(990);
    due("rust is 999 at most", x.rusts(50), -1);
    law(x, "99 - (998 < rust) * 99", "1", "1");
    due("999", x.rusts(50), 9);
    // sleepers, and a ladder that doesn't hold
    LadderOfRescued y = new LadderOfRescued();
    who(y, 5, 3, 50, 0); who(y, 5, 6, 50, 0); y.door(0); y.door(1);
    due("both", y.rusts(95), 7);
    due("one", y.rusts(98), 4);
    due("neither", y.rusts(94), -1);
  }

  private static void come() {
    promise = 21;
    LadderOfRescued x = three();
    due("nobody", x.come(0, 0), 1); due("nobody", x.come(0, 1), 1);
    due("one", x.come(1, 0), 4); due("one", x.come(1, 1), 5);
    due("three", x.come(3, 0), 64); due("three", x.come(3, 1), 125);
    due("four", x.come(4, 0), NO);
    due("part 2", x.come(0, 2), NO);
    for (int w : WILD) { due("n " + w, x.come(w, 0), NO); due("part " + w, x.come(0, w), NO); }
    law(x, "1", "1", "10 + rung + height");
    due("20 31 52", x.come(3, 0), 403); due("20 31 52", x.come(3, 1), 12500);
    law(x, "1", "1", "(rung = 0) * 200");
    due("100", x.come(1, 0), 1); due("100", x.come(1, 1), 1);
    due("none comes", x.come(2, 0), 0); due("none comes", x.come(2, 1), 1);
    LadderOfRescued y = new LadderOfRescued();
    for (int p = 0; p < 8; p++) { who(y, 0, 0, 1, 1); y.door(p); }
    law(y, "1", "1", "99");
    due("eight", y.come(8, 0), 9227446944279201L);
    due("eight", y.come(8, 1), 10000000000000000L);
  }

  private static void reach() {
    promise = 22;
    LadderOfRescued x = three();
    due("0", x.reach(0, 0), 1); due("0", x.reach(0, 1), 1);
    due("30", x.reach(30, 0), 5); due("30", x.reach(30, 1), 8);
    due("40", x.reach(40, 0), 1); due("40", x.reach(40, 1), 2);
    due("70", x.reach(70, 0), 1); due("70", x.reach(70, 1), 8);
    due("71", x.reach(71, 0), 0); due("71", x.reach(71, 1), 1);
    due("1000", x.reach(1000, 0), NO); due("part 2", x.reach(0, 2), NO);
    for (int w : WILD) { due("window " + w, x.reach(w, 0), NO); due("part " + w, x.reach(0, w), NO); }
    x.put(0, 1, 19);
    due("0 bears 1 or 2 alone no more", x.reach(0, 0), 3); due("0 bears not both", x.reach(0, 1), 4);
    x.feud(1, 2, 1);
    due("nor do 1 and 2 stand so", x.reach(0, 0), 5); due("of 8", x.reach(0, 1), 8);
    LadderOfRescued y = new LadderOfRescued();
    due("nobody", y.reach(0, 0), 1); due("nobody", y.reach(0, 1), 1); due("nobody", y.reach(1, 0), 0);
    // the rung is that of the set's ladder
    LadderOfRescued z = three();
    law(z, "50 - rung * 50", "999", "1");
    due("each by the lowest rung", z.reach(50, 0), 7); due("of 8", z.reach(50, 1), 8);
    due("together", z.reach(51, 0), 0);
  }

  private static void chain() {
    promise = 23;
    LadderOfRescued x = new LadderOfRescued();
    due("nobody", x.chain(0), 0);
    who(x, 0, 0, 30, 30); who(x, 0, 0, 40, 25); who(x, 0, 0, 20, 0); who(x, 0, 0, 50, 0);
    due("0: three weigh 30, four 55", x.chain(0), 15);
    due("1", x.chain(1), 0);
    x.door(2);
    due("20: 0 stands on 2", x.chain(20), 5);
    due("21", x.chain(21), 4);
    x.put(2, 1, 35);
    due("0 and 1 stand on 2, then 3", x.chain(20), 15);
    x.put(2, 1, 34);
    due("2 bears not both", x.chain(20), 7);
    due("nobody was saved", x.count(1), 1);
    due("1000", x.chain(1000), -2);
    for (int w : WILD) due("" + w, x.chain(w), -2);
    // rust is 0 after the first fire, and more are saved with each
    LadderOfRescued y = new LadderOfRescued();
    who(y, 0, 0, 1, 99); who(y, 0, 0, 1, 99); who(y, 0, 0, 1, 99); y.door(2);
    y.winters(5);
    law(y, "20 - (rust = 5) * 10", "99", "1");
    due("10", y.chain(10), 7); due("11", y.chain(11), 4);
    law(y, "10 - (rust < 5) * 9", "99", "1");
    due("10 and then 2", y.chain(3), 5);
    law(y, "10 - saved * 4", "99", "1");
    due("6 and then 4", y.chain(5), 5);
    due("rust stays", y.count(2), 5);
  }

  private static void nightRefusals(String name, int which) {
    LadderOfRescued x = three();
    due(name + " sheet 4", night(x, which, 4, 9, 9), -2);
    for (int w : WILD) due(name + " sheet " + w, night(x, which, w, 9, 9), -2);
    due(name + " missing", night(x, which, 0, 9, 9), -11);
    numbers(x, 0, 10, 30, 70, 90);
    due(name + " more than are saved", night(x, which, 0, 9, 9), -2);
    numbers(x, 0, 10, 30, 70);
    if (which == 1 || which == 2) {
      due(name + " nobody", night(x, which, 0, 3, 9), -5);
      for (int w : WILD) due(name + " p " + w, night(x, which, 0, w, 0), -5);
    }
    if (which >= 1 && which <= 4) {
      due(name + " what 2", night(x, which, 0, 0, 2), -7);
      for (int w : WILD) due(name + " what " + w, night(x, which, 0, 0, w), -7);
    }
  }
  private static int night(LadderOfRescued x, int which, int s, int p, int what) {
    switch (which) {
      case 0: return x.judge(s);
      case 1: return x.kinds(s, p, what);
      case 2: return x.heights(s, p, what);
      case 3: return x.years(s, what);
      case 4: return x.whose(s, what);
      default: return x.laws(s);
    }
  }

  private static void judge() {
    promise = 24;
    nightRefusals("judge", 0);
    LadderOfRescued x = three();
    numbers(x, 0, 10, 30, 70); due("as it is", x.judge(0), -1);
    numbers(x, 0, 10, 30, 71); due("rung 2", x.judge(0), 2);
    numbers(x, 0, 10, 29, 70); due("rung 1", x.judge(0), 1);
    numbers(x, 0, 11, 31, 71); due("rung 0", x.judge(0), 0);
    numbers(x, 0, 10, 30); due("fewer", x.judge(0), -1);
    numbers(x, 0); due("nothing", x.judge(0), -1);
    numbers(x, 0, Integer.MIN_VALUE); due("far", x.judge(0), 0);
  }

  private static void kinds() {
    promise = 25;
    nightRefusals("kinds", 1);
    LadderOfRescued x = new LadderOfRescued();
    who(x, 2, 4, 40, 10); who(x, 0, 0, 9, 9); x.door(0);
    numbers(x, 0, 44);
    due("a lady", x.kinds(0, 0, 0), 4); due("4 more", x.kinds(0, 0, 1), 16);
    numbers(x, 0, 20);
    due("a child", x.kinds(0, 0, 0), 16); due("no more", x.kinds(0, 0, 1), 0);
    numbers(x, 0, 40);
    due("no lady, no child", x.kinds(0, 0, 0), 43); due("0 more", x.kinds(0, 0, 1), 1);
    x.winters(5);
    due("nor a sleeper", x.kinds(0, 0, 0), 11);
    numbers(x, 0, 37);
    due("a sleeper", x.kinds(0, 0, 0), 32);
    numbers(x, 0);
    due("all kinds", x.kinds(0, 0, 0), 63); due("all more", x.kinds(0, 0, 1), 1023);
    numbers(x, 0, 44);
    due("who isn't saved", x.kinds(0, 1, 0), 63); due("who isn't saved", x.kinds(0, 1, 1), 1023);
    numbers(x, 0, 45);
    due("who isn't saved", x.kinds(0, 1, 0), 0);
    due("kind stays", x.told(0, 2), 2); due("more stays", x.told(0, 3), 4);
    law(x, "more * 2", "1", "1");
    numbers(x, 0, 9);
    due("more in the text: 3 times 3", x.kinds(0, 0, 1), 8);
  }

  private static void heights() {
    promise = 26;
    nightRefusals("heights", 2);
    LadderOfRescued x = new LadderOfRescued();
    who(x, 4, 4, 40, 10); who(x, 0, 0, 9, 9); x.door(0); x.door(1);
    numbers(x, 0, 25, 34);
    due("how many", x.heights(0, 0, 0), 2); due("least", x.heights(0, 0, 1), 50);
    numbers(x, 0, 50, 59);
    due("none", x.heights(0, 0, 0), 0); due("none", x.heights(0, 0, 1), -1);
    numbers(x, 0, 20, 119);
    due("99", x.heights(0, 1, 0), 1); due("99", x.heights(0, 1, 1), 99);
    numbers(x, 0, 20);
    due("any", x.heights(0, 1, 0), 100); due("any", x.heights(0, 1, 1), 0);
    due("height stays", x.told(1, 0), 9); due("height stays", x.told(0, 0), 40);
  }

  private static void years() {
    promise = 27;
    nightRefusals("years", 3);
    LadderOfRescued x = new LadderOfRescued();
    who(x, 5, 4, 40, 10); x.door(0); x.winters(7);
    numbers(x, 0, 40);
    due("0 to 4", x.years(0, 0), 5); due("least", x.years(0, 1), 0);
    numbers(x, 0, 37);
    due("5 to 99", x.years(0, 0), 95); due("least", x.years(0, 1), 5);
    numbers(x, 0, 39);
    due("none", x.years(0, 0), 0); due("none", x.years(0, 1), -1);
    law(x, "rust - 20", "1", "1");
    numbers(x, 0, 79 - 3);
    due("99", x.years(0, 0), 1); due("99", x.years(0, 1), 99);
    due("rust stays", x.count(2), 7);
  }

  private static void whose() {
    promise = 28;
    nightRefusals("whose", 4);
    LadderOfRescued x = three();
    numbers(x, 0);
    due("nothing told", x.whose(0, 0), 1); due("nothing told", x.whose(0, 1), 0);
    numbers(x, 0, 40, 50, 70);
    due("one", x.whose(0, 0), 1); due("one", x.whose(0, 1), 312);
    numbers(x, 0, 20);
    due("fewer", x.whose(0, 0), 1); due("fewer", x.whose(0, 1), 2);
    numbers(x, 0, 40, 80);
    due("none twice", x.whose(0, 0), 0); due("none twice", x.whose(0, 1), 0);
    who(x, 0, 0, 30, 0);
    numbers(x, 0, 30);
    due("only who is saved", x.whose(0, 0), 0);
    x.put(0, 0, 20); x.put(2, 0, 20);
    numbers(x, 0, 20, 40);
    due("six", x.whose(0, 0), 6); due("the first", x.whose(0, 1), 12);
    x.feud(0, 1, 1); x.put(0, 1, 0);
    due("it need not hold", x.whose(0, 1), 12);
    // the first by digits, not by who was saved first
    LadderOfRescued y = new LadderOfRescued();
    for (int p = 0; p < 8; p++) who(y, 0, 0, 10, 0);
    for (int p = 7; p >= 0; p--) y.door(p);
    numbers(y, 0, 10, 20, 30, 40, 50, 60, 70, 80);
    due("all rows", y.whose(0, 0), 40320); due("the first", y.whose(0, 1), 12345678);
    y.put(0, 0, 11);
    numbers(y, 0, 10, 20, 30, 40, 50, 60, 70, 81);
    due("0 last", y.whose(0, 0), 5040); due("the first", y.whose(0, 1), 23456781);
    // a first that leads nowhere is left again
    LadderOfRescued z = new LadderOfRescued();
    who(z, 0, 0, 10, 0); who(z, 0, 1, 10, 0);
    z.door(0); z.door(1);
    law(z, "10 + (rung = 1) * (1 - more) * 5", "1", "1");
    numbers(z, 0, 10, 25);
    due("0 above", z.whose(0, 1), 21);
  }

  private static void laws() {
    promise = 29;
    nightRefusals("laws", 5);
    LadderOfRescued x = three();
    read(x, "tall 10;bears 1;comes 1;");
    read(x, "tall height;bears 1;comes 1;");
    read(x, "tall rung * 10 + 10;bears 1;comes 1;");
    numbers(x, 0);
    due("nothing told", x.laws(0), 15);
    numbers(x, 0, 10);
    due("10", x.laws(0), 15);
    numbers(x, 0, 10, 30);
    due("10 30", x.laws(0), 13);
    numbers(x, 0, 10, 30, 70);
    due("10 30 70", x.laws(0), 5);
    numbers(x, 0, 10, 20, 30);
    due("10 20 30", x.laws(0), 2);
    numbers(x, 0, 11);
    due("none", x.laws(0), 0);
    due("the law stays", x.count(4), 0);
  }

  private static void film() {
    promise = 30;
    LadderOfRescued x = three();
    due("sheet 4", x.film(4), -2);
    for (int w : WILD) due("sheet " + w, x.film(w), -2);
    x.sheet(1, 0, 5);
    due("film", x.film(1), 3);
    due("no fourth", x.cell(1, 3, 0), -12);
    due("as it is", x.judge(1), -1);
    x.sheet(0, 2, 3); 
    due("ints", x.copy(1, 0, 0, 0, 3), 3);
    who(x, 0, 0, 99, 9); who(x, 2, 9, 99, 9); x.door(3); x.door(4);
    due("film", x.film(1), 5);
    due("past a byte", x.judge(1), -1);
    x.put(4, 0, 98);
    due("otherwise", x.judge(1), 4);
    LadderOfRescued y = new LadderOfRescued();
    due("nobody", y.film(3), 0);
    due("it is there", y.cell(3, 0, 0), -12);
    // each number, by what people a sheet tells
    LadderOfRescued z = new LadderOfRescued();
    who(z, 0, 0, 2, 9); who(z, 0, 0, 1, 9); who(z, 0, 0, 4, 9); who(z, 0, 0, 5, 9);
    z.door(1); z.door(0);
    z.film(0);
    due("1 3", z.stand(0, 0), 6);
  }

  private static void drawn() {
    promise = 31;
    LadderOfRescued x = three();
    // lots of seed 7: 386168, then 386168 * 48271 mod 2147483647 and so on
    long lot = 8;
    int n = 0;
    int[] heights = {10, 20, 40};
    for (int seed = 0; seed < 50; seed++) {
      lot = seed + 1; n = 0;
      int high = 0;
      for (int i = 0; i < 3; i++) {
        lot = lot * 48271 % 2147483647;
        if (lot % 100 < 80) { n++; high += heights[i]; }
      }
      due("how many of " + seed, x.drawn(seed, 2), n);
      due("how high of " + seed, x.drawn(seed, 0), high);
      due("holds " + seed, x.drawn(seed, 1), -1);
    }
    due("99999", x.drawn(99999, 2) >= 0 ? 1 : 0, 1);
    due("100000", x.drawn(100000, 0), -2);
    due("what 3", x.drawn(0, 3), -2);
    for (int w : WILD) { due("seed " + w, x.drawn(w, 0), -2); due("what " + w, x.drawn(0, w), -2); }
    // less than what comes tells: seed 7's first lot is 68
    LadderOfRescued y = new LadderOfRescued();
    who(y, 0, 0, 10, 0); who(y, 0, 0, 20, 0); y.door(1); y.door(0);
    law(y, "1 + rung * 10", "0", "68 + rung * 100");
    due("68 comes not by 68", y.drawn(7, 2), 1);
    due("the other at rung 0", y.drawn(7, 0), 1);
    due("holds", y.drawn(7, 1), -1);
    law(y, "1 + rung * 10", "0", "69 + rung * 100");
    due("68 comes by 69", y.drawn(7, 2), 2);
    due("both", y.drawn(7, 0), 12);
    due("it doesn't hold", y.drawn(7, 1), 0);
    LadderOfRescued z = new LadderOfRescued();
    due("nobody", z.drawn(0, 0), 0); due("nobody", z.drawn(0, 1), -1); due("nobody", z.drawn(0, 2), 0);
  }

  private static void odds() {
    promise = 32;
    LadderOfRescued x = three();
    for (int seed : new int[] {0, 7, 5000, 99999}) {
      for (int window : new int[] {0, 1, 30, 70, 71}) {
        int many = 0;
        for (int i = 0; i < 60; i++) {
          long lot = seed + i + 1;
          int high = 0;
          for (int h = 10; h <= 40; h *= 2) {
            lot = lot * 48271 % 2147483647;
            if (lot % 100 < 80) high += h;
          }
          if (high >= window) many++;
        }
        long got = x.odds(seed, 60, window, 0) * 60;
        due("60 seeds from " + seed + " window " + window, got, many * x.odds(seed, 60, window, 1));
      }
    }
    due("all", x.odds(1, 60, 0, 0), 1); due("all", x.odds(1, 60, 0, 1), 1);
    due("none", x.odds(1, 60, 71, 0), 0); due("none", x.odds(1, 60, 71, 1), 1);
    law(x, "height", "9", "100");
    due("it doesn't hold", x.odds(1, 60, 0, 0), 0);
    due("seeds 0", x.odds(1, 0, 0, 0), NO); due("seeds 61", x.odds(1, 61, 0, 0), NO);
    due("seed 100000", x.odds(100000, 1, 0, 0), NO);
    due("window 1000", x.odds(1, 1, 1000, 0), NO);
    due("part 2", x.odds(1, 1, 0, 2), NO);
    for (int w : WILD) {
      due("seed " + w, x.odds(w, 1, 0, 0), NO); due("seeds " + w, x.odds(1, w, 0, 0), NO);
      due("window " + w, x.odds(1, 1, w, 0), NO); due("part " + w, x.odds(1, 1, 0, w), NO);
    }
    // of seeds 0 and 1 the first lots are 71 and 42
    LadderOfRescued y = new LadderOfRescued();
    who(y, 0, 0, 10, 0); y.door(0);
    law(y, "height", "9", "71");
    due("one of two", y.odds(0, 2, 10, 0), 1); due("one of two", y.odds(0, 2, 10, 1), 2);
    due("none of one", y.odds(0, 1, 10, 0), 0);
    due("the second", y.odds(1, 1, 10, 0), 1);
  }

  private static void image() {
    promise = 33;
    LadderOfRescued x = new LadderOfRescued();
    due("nobody", x.image(), 0);
    who(x, 0, 0, 10, 0); who(x, 0, 0, 10, 0);
    due("two", x.image(), 2);
    who(x, 0, 0, 10, 0);
    due("the later image", x.back(), 2);
    due("it stays", x.back(), 2);
    x.put(0, 0, 77);
    x.image();
    x.put(0, 0, 5);
    x.back();
    due("kept anew", x.told(0, 0), 77);
  }

  private static void back() {
    promise = 34;
    LadderOfRescued x = new LadderOfRescued();
    due("none", x.back(), -3);
    who(x, 1, 2, 10, 11); who(x, 3, 4, 20, 21); who(x, 5, 6, 30, 31);
    x.door(2); x.door(0); x.feud(0, 1, 1); x.winters(9); law(x, "1", "2", "3");
    x.image();
    x.put(0, 0, 90); x.put(1, 1, 900); x.feud(0, 1, 0); x.feud(1, 2, 1); x.door(1); x.winters(0);
    law(x, "4", "5", "6");
    who(x, 0, 0, 1, 1); x.feud(3, 0, 1); x.door(3);
    x.sheet(0, 2, 3); x.feed(2, 1, 2, 3, 4, 5);
    due("people", x.back(), 3);
    due("people", x.count(0), 3); due("saved", x.count(1), 2); due("rust", x.count(2), 9); due("the law", x.count(4), 1);
    due("height", x.told(0, 0), 10); due("strong", x.told(1, 1), 21);
    due("feuds of 0", x.told(0, 4), 2); due("feuds of 1", x.told(1, 4), 1); due("feuds of 2", x.told(2, 4), 0);
    due("order", x.told(2, 5), 0); due("order", x.told(0, 5), 1); due("order", x.told(1, 5), -1);
    due("kind", x.told(1, 2), 3); due("more", x.told(2, 3), 6);
    due("none any more", x.told(3, 0), -5);
    due("the texts stay", x.count(3), 3); due("the tape stays", x.count(5), 2); due("the sheet stays", x.cell(0, 2, 0), 1);
    due("another comes", who(x, 2, 7, 40, 41), 3);
    due("no feud", x.told(3, 4), 0); due("not saved", x.told(3, 5), -1); due("kind", x.told(3, 2), 2);
    due("no feud of 0 with that one", x.told(0, 4), 2);
    // of eight, the eighth too
    LadderOfRescued y = new LadderOfRescued();
    for (int p = 0; p < 8; p++) { y.person(59 - p, 1000 * p + p + 20); y.door(p); }
    y.feud(7, 6, 1);
    y.image();
    y.put(7, 0, 1); y.put(7, 1, 2); y.feud(7, 6, 0);
    due("eight", y.back(), 8);
    due("height", y.told(7, 0), 7); due("strong", y.told(7, 1), 27); due("kind", y.told(7, 2), 5); due("more", y.told(7, 3), 2);
    due("feuds", y.told(7, 4), 64); due("order", y.told(7, 5), 7);
    due("film", y.film(0), 8); due("as it is", y.judge(0), -1);
    due("kind 5 more 2", y.kinds(0, 7, 1), 1023);
    // what is asked on a trial is of the eighth too
    numbers(y, 1, 0, 1, 2, 3, 4, 5, 6, 7);
    due("stand", y.stand(1, 0), y.ladder(0));
    due("heights", y.heights(0, 7, 1), 7);
    y.winters(3); y.film(0);
    due("more: awake", y.kinds(0, 7, 1), 1 | 2 | 4);
  }

  private static void sheet() {
    promise = 35;
    LadderOfRescued x = new LadderOfRescued();
    for (int s = 0; s < 4; s++) due("sheet " + s, x.sheet(s, 0, s), 1);
    due("sheet 4", x.sheet(4, 0, -1), -2);
    due("sort 3", x.sheet(0, 3, -1), -2); due("sort -2", x.sheet(0, -2, -1), -2);
    due("n 41", x.sheet(0, 2, 41), -2); due("n -1", x.sheet(0, 2, -1), -14);
    for (int w : WILD) {
      due("sheet " + w, x.sheet(w, 0, 0), -2);
      if (w != -1) due("sort " + w, x.sheet(0, w, 0), -2);
      due("n " + w, x.sheet(0, 1, w), w < 0 ? -14 : -2);
    }
    due("40", x.sheet(0, 1, 40), 1);
    due("its last", x.cell(0, 39, 5), 1); due("behind it", x.cell(0, 40, 5), -12);
    due("missing", x.sheet(0, -1, 41), 1);
    due("missing", x.cell(0, 0, 0), -11);
    due("missing", x.sheet(1, -1, -7), 1);
    // all 0 again
    who(x, 0, 0, 5, 5); who(x, 0, 0, 6, 6);
    numbers(x, 2, 1);
    due("1", x.stand(2, 0), 6);
    x.sheet(2, 2, 1);
    due("0", x.stand(2, 0), 5);
  }

  private static void cell() {
    promise = 36;
    LadderOfRescued x = new LadderOfRescued();
    for (int p = 0; p < 3; p++) { who(x, 0, 0, 10 + p, 0); x.door(p); }
    due("missing", x.cell(0, 99, 0), -11);
    due("sheet 4", x.cell(4, 0, 0), -2);
    for (int w : WILD) due("sheet " + w, x.cell(w, 0, 0), -2);
    x.sheet(0, 2, 1);
    for (int w : WILD) due("place " + w, x.cell(0, w, 0), -12);
    due("place 1", x.cell(0, 1, 0), -12);
    // 10 high at rung 0
    x.cell(0, 0, 10); due("int", x.judge(0), -1);
    x.cell(0, 0, 10 + 65536); due("int", x.judge(0), 0);
    x.sheet(0, 1, 1);
    x.cell(0, 0, 10 + 65536); due("short", x.judge(0), -1);
    x.cell(0, 0, 10 + 256); due("short", x.judge(0), 0);
    x.sheet(0, 0, 1);
    x.cell(0, 0, 10 + 256); due("byte", x.judge(0), -1);
    x.cell(0, 0, 10 - 65536 * 5 - 256); due("byte", x.judge(0), -1);
    // 200 high: a byte of 200 is -56
    LadderOfRescued y = new LadderOfRescued();
    for (int p = 0; p < 3; p++) { who(y, 0, 0, 0, 0); y.door(p); }
    law(y, "(rung < 2) * 70 + (rung = 2) * 60", "0", "0");
    y.sheet(0, 0, 3);
    y.cell(0, 0, 70); y.cell(0, 1, 140); y.cell(0, 2, 200);
    due("a byte has a sign", y.judge(0), 1);
    y.sheet(0, 1, 3);
    y.cell(0, 0, 70); y.cell(0, 1, 140); y.cell(0, 2, 200);
    due("shorts", y.judge(0), -1);
  }

  private static void copy() {
    promise = 37;
    LadderOfRescued x = new LadderOfRescued();
    for (int p = 0; p < 8; p++) who(x, 0, 0, 1 << Math.min(p, 6), 999);
    due("sheet 4", x.copy(4, 0, 0, 0, 0), -2); due("sheet 4", x.copy(0, 0, 4, 0, 0), -2);
    for (int w : WILD) { due("sheet " + w, x.copy(w, 0, 0, 0, 0), -2); due("other " + w, x.copy(0, 0, w, 0, 0), -2); }
    due("missing", x.copy(0, -1, 1, 0, 0), -11);
    numbers(x, 0, 5, 4, 3, 2, 1);
    due("missing", x.copy(0, -1, 1, 0, 0), -11); due("missing", x.copy(1, -1, 0, 0, 0), -11);
    x.sheet(1, 1, 5);
    due("unlike ahead of a place", x.copy(0, -1, 1, 0, 0), -13);
    x.sheet(1, 2, 3);
    due("i -1", x.copy(0, -1, 1, 0, 1), -12); due("j -1", x.copy(0, 0, 1, -1, 1), -12); due("n -1", x.copy(0, 0, 1, 0, -1), -12);
    due("past the end", x.copy(0, 3, 1, 0, 3), -12); due("past the other's end", x.copy(0, 0, 1, 1, 3), -12);
    due("0 at the end", x.copy(0, 5, 1, 3, 0), 0); due("0 behind it", x.copy(0, 6, 1, 3, 0), -12);
    for (int w : WILD) {
      due("i " + w, x.copy(0, w, 1, 0, 1), -12); due("j " + w, x.copy(0, 0, 1, w, 1), -12); due("n " + w, x.copy(0, 1, 1, 1, w), -12);
    }
    due("three", x.copy(0, 1, 1, 0, 3), 3);
    due("4 3 2", x.stand(1, 0), 16 + 8 + 4);
    due("3 2 weigh", x.stand(1, 2), 4 + 2);
    numbers(x, 3, 6, 5);
    due("of sheet 3", x.copy(3, 0, 1, 0, 2), 2); due("6 5 2", x.stand(1, 0), 64 + 32 + 4);
    due("to sheet 3", x.copy(0, 0, 3, 0, 2), 2); due("5 4", x.stand(3, 0), 32 + 16);
    // onto itself, both ways, as they were
    numbers(x, 0, 0, 1, 2, 3, 7);
    due("up", x.copy(0, 0, 0, 1, 4), 4);
    x.cell(0, 0, 7);
    x.sheet(2, 2, 5); x.copy(0, 0, 2, 0, 5);
    due("7 0 1 2 3", x.stand(2, 0), 64 + 1 + 2 + 4 + 8);
    due("0 1 2 3 weigh", x.stand(2, 2), 0 + 1 + 2 + 4);
    due("down", x.copy(0, 1, 0, 0, 4), 4);
    x.cell(0, 4, 7);
    due("0 1 2 3 7", x.stand(0, 0), 64 + 1 + 2 + 4 + 8);
    due("1 2 3 7 weigh", x.stand(0, 2), 1 + 2 + 4 + 32);
  }

  private static void peopleBy() {
    promise = 38;
    LadderOfRescued x = new LadderOfRescued();
    due("sheet 4", x.peopleBy(4, 0, 0, 0), -2); due("sort 3", x.peopleBy(0, 3, 0, 0), -2); due("sort -1", x.peopleBy(0, -1, 0, 0), -2);
    due("n 9", x.peopleBy(0, 0, 0, 9), -2);
    for (int w : WILD) { due("sheet " + w, x.peopleBy(w, 0, 0, 0), -2); due("sort " + w, x.peopleBy(0, w, 0, 0), -2); due("n " + w, x.peopleBy(0, 0, 0, w), -2); }
    due("missing", x.peopleBy(0, 0, 0, 1), -11);
    numbers(x, 0, 12, 34056, 60, 0, 59, 99999, 1);
    due("another sort", x.peopleBy(0, 1, 99, 1), -13);
    due("none of them", x.peopleBy(0, 2, 0, 0), 0);
    due("outside", x.peopleBy(0, 2, -1, 1), -12); due("outside", x.peopleBy(0, 2, 6, 1), -12); due("outside", x.peopleBy(0, 2, 7, 1), -12);
    for (int w : WILD) due("from " + w, x.peopleBy(0, 2, w, 1), -12);
    due("nobody came", x.count(0), 0);
    due("two of three", x.peopleBy(0, 2, 0, 3), 2);
    due("kind", x.told(0, 2), 1); due("more", x.told(0, 3), 2); due("height", x.told(0, 0), 34); due("strong", x.told(0, 1), 56);
    due("kind", x.told(1, 2), 5);
    due("what stood ahead came", x.peopleBy(0, 2, 4, 2), -12);
    due("people", x.count(0), 3);
    due("from 1: one fits", x.peopleBy(0, 2, 1, 2), 1);
    due("strong", x.told(3, 1), 59);
    // full: others are left out
    numbers(x, 1, 0, 0, 0, 1, 0, 2, 0, 3, 0, 4, 0, 5);
    due("four of six", x.peopleBy(1, 2, 0, 6), 4);
    due("none of six", x.peopleBy(1, 2, 0, 6), 0);
    due("outside though full", x.peopleBy(1, 2, 0, 7), -12);
    LadderOfRescued y = new LadderOfRescued();
    y.sheet(0, 0, 16);
    due("bytes, eight", y.peopleBy(0, 0, 0, 8), 8);
    due("people", y.count(0), 8);
    LadderOfRescued w3 = new LadderOfRescued();
    w3.sheet(3, 2, 2);
    due("sheet 3", w3.peopleBy(3, 2, 0, 1), 1);
    LadderOfRescued z = new LadderOfRescued();
    z.sheet(0, 1, 2); z.cell(0, 1, 40000);
    due("a short of 40000 is below 0", z.peopleBy(0, 1, 0, 1), 0);
    z.cell(0, 1, 32767); z.cell(0, 0, 59);
    due("a short", z.peopleBy(0, 1, 0, 1), 1);
    due("height", z.told(0, 0), 32); due("strong", z.told(0, 1), 767);
  }

  private static void taken() {
    promise = 39;
    LadderOfRescued x = new LadderOfRescued();
    for (int kind = 0; kind < 6; kind++) who(x, kind, 0, 1, 1);
    String[] isA = {"0", "01", "02", "013", "024", "05"};
    x.door(3);
    for (int p = 0; p < 6; p++) {
      for (int kind = 0; kind < 6; kind++) {
        due(p + " for " + kind, x.taken(p, kind), isA[p].indexOf('0' + kind) >= 0 ? p : -13);
        due("saved " + p + " for " + kind, x.taken(8 + p, kind), -13);
      }
      due(p + " for 6", x.taken(p, 6), -13);
      due("saved " + p + " for 6", x.taken(8 + p, 6), p == 3 ? 1 : 0);
    }
    due("nobody", x.taken(6, 6), -11); due("nobody", x.taken(7, 0), -11);
    due("nobody", x.taken(14, 0), -11); due("nobody", x.taken(15, 6), -11);
    who(x, 1, 0, 1, 1); who(x, 2, 0, 1, 1);
    x.door(7);
    due("the eighth", x.taken(7, 2), 7); due("the eighth is saved", x.taken(15, 6), 1); due("the first is not", x.taken(8, 6), 0);
    due("16", x.taken(16, 0), -12); due("-1", x.taken(-1, 0), -12);
    due("kind 7", x.taken(16, 7), -2);
    for (int w : WILD) { due("kind " + w, x.taken(w, w), -2); due("i " + w, x.taken(w, 0), -12); }
  }
}
