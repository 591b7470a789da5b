// The boundary cases of promises 1 to 39, each by the sentence that names it. What is refused, in which order, and
// that it changes nothing is tried by RefusalsTest; what the document's 'Terms' bound, by TermsTest.
public final class BoundsTest {
  private static final long NO = Due.NO;
  private static final int MIN = Due.MIN, MAX = Due.MAX;

  public static void main(String[] args) {
    newObject(); count(); winters(); feed(); text(); force(); asks(); person(); put(); feud(); told();
    ladder(); stand(); fire(); door();
    highest(); highestOfLikeOnes(); fewest(); missed(); next(); rusts(); come(); reach(); chain();
    judge(); kinds(); heights(); years(); whose(); laws(); film();
    drawn(); odds(); image(); back();
    sheet(); cell(); copy(); peopleBy(); taken();
    Due.end("BoundsTest");
  }

  // ---- the law, people

  private static void newObject() {
    Due.of(1, "No PEOPLE: whatever is asked of nobody");
    LadderOfRescued x = Due.anew();
    for (int what = 0; what < 6; what++) Due.is("count " + what, x.count(what), what == 3 ? 1 : 0);
    for (int part = 0; part < 3; part++) Due.is("asks", x.asks(part, 0, 0), -2);
    for (int what = 0; what < 6; what++) Due.is("told", x.told(0, what), -5);
    Due.is("put", x.put(0, 0, 0), -5); Due.is("feud", x.feud(0, 1, 0), -5);
    Due.is("fire", x.fire(0, 0), -5); Due.is("door", x.door(0), -5);
    Due.is("high", x.ladder(0), 0); Due.is("holds", x.ladder(1), -1); Due.is("weight", x.ladder(2), 0);
    for (int n = 0; n < 6; n++) { Due.is("highest", x.highest(n, 0), -1); Due.is("highest", x.highest(n, 1), 0); }
    Due.is("fewest", x.fewest(0), 0); Due.is("fewest", x.fewest(1), -1); Due.is("fewest", x.fewest(999), -1);
    Due.is("missed", x.missed(0), -1); Due.is("missed", x.missed(1), 0);
    Due.is("next", x.next(0), -1); Due.is("next", x.next(1), 0);
    Due.is("rusts", x.rusts(0), -1); Due.is("rusts", x.rusts(1), 0); Due.is("rusts", x.rusts(999), 0);
    Due.is("come", x.come(0, 0), 1); Due.is("come", x.come(0, 1), 1); Due.is("come", x.come(1, 0), NO);
    Due.is("reach", x.reach(0, 0), 1); Due.is("reach", x.reach(0, 1), 1);
    Due.is("reach", x.reach(1, 0), 0); Due.is("reach", x.reach(1, 1), 1);
    Due.is("chain", x.chain(0), 0); Due.is("chain", x.chain(999), 0);
    Due.is("drawn", x.drawn(0, 0), 0); Due.is("drawn", x.drawn(0, 1), -1); Due.is("drawn", x.drawn(99999, 2), 0);
    Due.is("odds", x.odds(0, 60, 0, 0), 1); Due.is("odds", x.odds(0, 60, 0, 1), 1);
    Due.is("odds", x.odds(0, 60, 1, 0), 0); Due.is("odds", x.odds(0, 60, 1, 1), 1);
    Due.is("taken", x.taken(0, 0), -11); Due.is("taken", x.taken(8, 6), -11);
    Due.is("back", x.back(), -3);
    Due.is("film", x.film(0), 0);
    Due.is("judge", x.judge(0), -1); Due.is("laws", x.laws(0), 1);
    Due.is("years", x.years(0, 0), 100); Due.is("years", x.years(0, 1), 0);
    Due.is("whose", x.whose(0, 0), 1); Due.is("whose", x.whose(0, 1), 0);
    Due.is("kinds", x.kinds(0, 0, 0), -5); Due.is("heights", x.heights(0, 0, 0), -5);
    for (int what = 0; what < 3; what++) Due.is("stand", x.stand(0, what), what == 1 ? -1 : 0);
    Due.is("text", x.text(), -100);
    Due.is("image", x.image(), 0); Due.is("back", x.back(), 0);
    Due.of(1, "A new object: nothing is as in another one");
    LadderOfRescued y = Due.saved(8, 10, 999);
    Due.law(y, "1", "2", "3"); y.winters(9); y.image(); y.feed(1, 65, 0, 0, 0, 0); Due.ints(y, 0, 1);
    LadderOfRescued z = Due.anew();
    for (int what = 0; what < 6; what++) Due.is("count " + what, z.count(what), what == 3 ? 1 : 0);
    Due.is("back", z.back(), -3); Due.is("cell", z.cell(0, 0, 0), -11);
    Due.is("its first", Due.who(z, 0, 0, 77, 0), 0); Due.is("its law", z.asks(0, 0, 0), 77);
    Due.of(1, "the constants of the face");
    Due.is("NONE", LadderOfRescued.NONE, -1); Due.is("BAD", LadderOfRescued.BAD, -2);
    Due.is("STATE", LadderOfRescued.STATE, -3); Due.is("FULL", LadderOfRescued.FULL, -4);
    Due.is("NO", LadderOfRescued.NO, -4611686018427387904L);
  }

  private static void count() {
    Due.of(2, "0 PEOPLE, 1 how many are SAVED, 2 RUST, 3 TEXTS, 4 THE LAW, 5 bytes of THE TAPE: each at its most");
    LadderOfRescued x = Due.saved(8, 0, 0);
    x.winters(999);
    for (int t = 1; t < 6; t++) Due.read(x, "tall 1;bears 1;comes 1;");
    x.force(5);
    for (int i = 0; i < 32; i++) x.feed(5, 0, 0, 0, 0, 0);
    int[] most = {8, 8, 999, 6, 5, 160};
    for (int what = 0; what < 6; what++) Due.is("" + what, x.count(what), most[what]);
    Due.of(2, "BAD");
    for (int what : new int[] {MIN, -1, 6, MAX}) Due.is("" + what, x.count(what), -2);
  }

  private static void winters() {
    Due.of(3, "RUST becomes n (0 .. 999): what it was");
    LadderOfRescued x = Due.anew();
    Due.is("999", x.winters(999), 0); Due.is("0", x.winters(0), 999); Due.is("1", x.winters(1), 0); Due.is("998", x.winters(998), 1);
    Due.of(3, "BAD");
    for (int n : new int[] {MIN, -1, 1000, MAX}) { Due.is("" + n, x.winters(n), -2); Due.is("rust", x.count(2), 998); }
  }

  private static void feed() {
    Due.of(4, "The first n (1 .. 5) of five bytes: how many THE TAPE has");
    LadderOfRescued x = Due.anew();
    for (int n = 1; n <= 5; n++) Due.is("" + n, x.feed(n, 255, 255, 255, 255, 255), n * (n + 1) / 2);
    Due.of(4, "BAD: n, any of the five (0 .. 255 each), also of those that don't come");
    for (int n : new int[] {MIN, -1, 0, 6, MAX}) Due.is("n " + n, x.feed(n, 0, 0, 0, 0, 0), -2);
    for (int n = 1; n <= 5; n++) {
      for (int bad : new int[] {MIN, -1, 256, MAX}) {
        Due.is(n + " a " + bad, x.feed(n, bad, 0, 0, 0, 0), -2); Due.is(n + " b " + bad, x.feed(n, 0, bad, 0, 0, 0), -2);
        Due.is(n + " c " + bad, x.feed(n, 0, 0, bad, 0, 0), -2); Due.is(n + " d " + bad, x.feed(n, 0, 0, 0, bad, 0), -2);
        Due.is(n + " e " + bad, x.feed(n, 0, 0, 0, 0, bad), -2);
      }
    }
    Due.is("none came", x.count(5), 15);
    Due.of(4, "FULL: they have not all room (none comes)");
    for (int room = 0; room <= 6; room++) {
      for (int n = 1; n <= 5; n++) {
        LadderOfRescued y = Due.anew();
        for (int i = 0; i < 160 - room; i++) y.feed(1, 32, 0, 0, 0, 0);
        Due.is(n + " into " + room, y.feed(n, 32, 32, 32, 32, 32), n <= room ? 160 - room + n : -4);
        Due.is("it has", y.count(5), n <= room ? 160 - room + n : 160 - room);
        Due.is("bad ahead of full", y.feed(5, 32, 32, 32, 32, 256), -2);
        if (n > room && room > 0) Due.is("what has room still comes", y.feed(room, 32, 32, 32, 32, 32), 160);
      }
    }
    Due.of(4, "come behind THE TAPE's, one by one");
    String text = "tall 12;bears 345;comes 67;";
    for (int n = 1; n <= 5; n++) {
      LadderOfRescued y = Due.anew();
      Due.who(y, 0, 0, 0, 0);
      for (int i = 0; i < text.length(); i += n) {
        int[] five = {'@', '@', '@', '@', '@'};
        int many = Math.min(n, text.length() - i);
        for (int k = 0; k < many; k++) five[k] = text.charAt(i + k);
        Due.is("fed", y.feed(many, five[0], five[1], five[2], five[3], five[4]), i + many);
      }
      Due.is("its text", y.text(), 1);
      y.force(1);
      Due.is("tall", y.asks(0, 0, 0), 12); Due.is("bears", y.asks(1, 0, 0), 345); Due.is("comes", y.asks(2, 0, 0), 67);
    }
  }

  private static void text() {
    Due.of(5, "THE TAPE, which is empty then, is a TEXT: its number");
    LadderOfRescued x = Due.anew();
    for (int t = 1; t < 6; t++) {
      Due.is("number", Due.read(x, "tall 1;bears 1;comes 1;"), t);
      Due.is("the tape", x.count(5), 0);
    }
    Due.of(5, "FULL (ahead of the FAULT; then THE TAPE stays)");
    Due.is("of no byte", x.text(), -4);
    Due.feed(x, "@");
    Due.is("of a fault", x.text(), -4); Due.is("it stays", x.count(5), 1);
    Due.feed(x, " tall");
    Due.is("it is fed on", x.count(5), 6); Due.is("full", x.text(), -4); Due.is("texts", x.count(3), 6);
    Due.of(5, "-100 less the place of its FAULT; THE TAPE is empty then (by a FAULT, too)");
    LadderOfRescued y = Due.anew();
    for (int place : new int[] {0, 1, 99, 100, 159}) {
      StringBuilder b = new StringBuilder();
      while (b.length() < place) b.append(' ');
      Due.is("at " + place, Due.read(y, b + "@"), -100 - place);
      Due.is("the tape", y.count(5), 0);
      Due.is("texts", y.count(3), 1);
    }
    LadderOfRescued z = Due.anew();
    for (int i = 0; i < 32; i++) z.feed(5, 32, 10, 32, 10, 32);
    Due.is("160 blanks", z.text(), -260);
    Due.is("the tape", z.count(5), 0);
    Due.is("no byte", z.text(), -100);
    Due.is("what is fed then stands first", z.feed(1, 't', 0, 0, 0, 0), 1);
    Due.is("alone", z.text(), -100);
    Due.is("after faults the next number", Due.read(z, "tall 1;bears 1;comes 1;"), 1);
    Due.is("the law stays", z.count(4), 0);
    Due.of(5, "by a FAULT nothing of it is left: the next TEXT says what it says");
    for (String begun : new String[] {"tall 9+", "tall 9 or", "tall 9;bears 9", "tall 9;bears 9;comes 9", "tall 9;bears 9;comes 9;9", "tall -9*(9"}) {
      LadderOfRescued w = Due.anew();
      Due.who(w, 0, 0, 0, 0);
      Due.is(begun, Due.read(w, begun), -100 - begun.length() + (begun.endsWith(";9") ? 1 : 0));
      Due.is("the next", Due.read(w, "tall 1;bears 2;comes 3;"), 1);
      w.force(1);
      for (int part = 0; part < 3; part++) Due.is("part " + part, w.asks(part, 0, 0), part + 1);
    }
  }

  private static void force() {
    Due.of(6, "A TEXT is THE LAW: which was. BAD");
    LadderOfRescued x = Due.anew();
    Due.is("the only one", x.force(0), 0); Due.is("none such", x.force(1), -2); Due.is("-1", x.force(-1), -2);
    for (int t = 1; t < 6; t++) {
      Due.is("not yet", x.force(t), -2);
      Due.read(x, "tall 1;bears 1;comes 1;");
      Due.is("now", x.force(t), t - 1);
      Due.is("which is", x.count(4), t);
    }
    for (int t : new int[] {MIN, -1, 6, MAX}) { Due.is("" + t, x.force(t), -2); Due.is("the law stays", x.count(4), 5); }
    Due.is("itself", x.force(5), 5); Due.is("the first", x.force(0), 5);
    Due.of(6, "BAD: what had a FAULT is no TEXT");
    LadderOfRescued y = Due.anew();
    Due.read(y, "tall 1;bears 1;comes 1");
    Due.is("1", y.force(1), -2);
  }

  private static void asks() {
    Due.of(7, "one of PEOPLE at a RUNG (0 .. 7)");
    LadderOfRescued x = Due.saved(8, 0, 0);
    Due.law(x, "rung", "rung", "rung");
    for (int part = 0; part < 3; part++) {
      for (int rung = 0; rung < 8; rung++) Due.is("rung " + rung, x.asks(part, 7, rung), rung);
      for (int rung : new int[] {MIN, -1, 8, MAX}) Due.is("rung " + rung, x.asks(part, 0, rung), -2);
      for (int p : new int[] {MIN, -1, 8, MAX}) Due.is("p " + p, x.asks(part, p, 0), -2);
    }
    for (int part : new int[] {MIN, -1, 3, MAX}) Due.is("part " + part, x.asks(part, 0, 0), -2);
    Due.of(7, "one of PEOPLE, also one who isn't SAVED");
    LadderOfRescued y = Due.anew();
    Due.who(y, 5, 9, 99, 999);
    Due.is("tall", y.asks(0, 0, 0), 99); Due.is("bears", y.asks(1, 0, 7), 999);
  }

  private static void person() {
    Due.of(8, "kindMore: 10 times KIND, and MORE; heightStrong: 1000 times HEIGHT, and STRONG");
    int[][] those = {{0, 0, 0, 0, 0, 0}, {9, 999, 0, 9, 0, 999}, {10, 1000, 1, 0, 1, 0}, {49, 98999, 4, 9, 98, 999}, {50, 99000, 5, 0, 99, 0}, {59, 99999, 5, 9, 99, 999}};
    LadderOfRescued x = Due.anew();
    for (int p = 0; p < 6; p++) {
      Due.is("the number", x.person(those[p][0], those[p][1]), p);
      Due.is("kind", x.told(p, 2), those[p][2]); Due.is("more", x.told(p, 3), those[p][3]);
      Due.is("height", x.told(p, 0), those[p][4]); Due.is("strong", x.told(p, 1), those[p][5]);
    }
    Due.of(8, "BAD; FULL");
    for (int v : new int[] {MIN, -1, 60, 69, 100, MAX}) { Due.is("kind, more " + v, x.person(v, 0), -2); Due.is("people", x.count(0), 6); }
    for (int v : new int[] {MIN, -1, 100000, MAX}) { Due.is("height, strong " + v, x.person(0, v), -2); Due.is("people", x.count(0), 6); }
    Due.is("the seventh", x.person(0, 0), 6); Due.is("the eighth", x.person(0, 0), 7);
    Due.is("the ninth", x.person(0, 0), -4); Due.is("a bad ninth", x.person(60, 0), -2); Due.is("a bad ninth", x.person(0, 100000), -2);
    Due.is("people", x.count(0), 8);
  }

  private static void put() {
    Due.of(9, "HEIGHT (what 0), STRONG (1) becomes v: what it was");
    LadderOfRescued x = Due.saved(8, 7, 70);
    Due.is("height 99", x.put(7, 0, 99), 7); Due.is("height 0", x.put(7, 0, 0), 99); Due.is("it is", x.told(7, 0), 0);
    Due.is("strong 999", x.put(7, 1, 999), 70); Due.is("strong 0", x.put(7, 1, 0), 999); Due.is("it is", x.told(7, 1), 0);
    Due.is("strong 100", x.put(7, 1, 100), 0); Due.is("another's height", x.told(6, 0), 7); Due.is("another's strong", x.told(6, 1), 70);
    Due.of(9, "-5: none such; -7: what, v");
    for (int p : new int[] {MIN, -1, 8, MAX}) Due.is("p " + p, x.put(p, 0, 0), -5);
    for (int what : new int[] {MIN, -1, 2, MAX}) Due.is("what " + what, x.put(0, what, 0), -7);
    for (int v : new int[] {MIN, -1, 100, 999, MAX}) Due.is("height " + v, x.put(0, 0, v), -7);
    for (int v : new int[] {MIN, -1, 1000, MAX}) Due.is("strong " + v, x.put(0, 1, v), -7);
    Due.is("height stays", x.told(0, 0), 7); Due.is("strong stays", x.told(0, 1), 70);
    Due.of(9, "HEIGHT becomes v: also of one who is SAVED, and THE LADDER with it");
    x.put(0, 0, 99);
    Due.is("high", x.ladder(0), 99 + 6 * 7);
  }

  private static void feud() {
    Due.of(10, "Two have a FEUD (is 1), or none (0): what they had");
    LadderOfRescued x = Due.saved(8, 0, 0);
    Due.is("0 7", x.feud(0, 7, 1), 0); Due.is("7 0", x.feud(7, 0, 1), 1); Due.is("of 0", x.told(0, 4), 128); Due.is("of 7", x.told(7, 4), 1);
    Due.is("7 6", x.feud(7, 6, 1), 0); Due.is("of 7", x.told(7, 4), 65);
    Due.is("none", x.feud(0, 7, 0), 1); Due.is("none again", x.feud(7, 0, 0), 0); Due.is("of 7", x.told(7, 4), 64); Due.is("of 0", x.told(0, 4), 0);
    Due.of(10, "-5: none such, one and the same; -7: is");
    for (int p = 0; p < 8; p++) Due.is(p + " " + p, x.feud(p, p, 1), -5);
    for (int p : new int[] {MIN, -1, 8, MAX}) { Due.is("a " + p, x.feud(p, 0, 1), -5); Due.is("b " + p, x.feud(0, p, 1), -5); Due.is("both " + p, x.feud(p, p, 1), -5); }
    for (int is : new int[] {MIN, -1, 2, MAX}) Due.is("is " + is, x.feud(6, 7, is), -7);
    Due.is("one and the same, ahead of is", x.feud(6, 6, 2), -5);
    Due.is("of 6", x.told(6, 4), 128);
  }

  private static void told() {
    Due.of(11, "4 who has a FEUD with one (bits)");
    LadderOfRescued x = Due.anew();
    for (int p = 0; p < 8; p++) x.person(0, 0);
    for (int p = 1; p < 8; p++) x.feud(0, p, 1);
    Due.is("all others", x.told(0, 4), 254); Due.is("one", x.told(7, 4), 1);
    Due.of(11, "5 how many were SAVED ahead of one (-1: one isn't)");
    for (int p = 7; p >= 0; p--) { Due.is("isn't", x.told(p, 5), -1); x.door(p); Due.is("is", x.told(p, 5), 7 - p); }
    Due.is("nobody ahead", x.told(7, 5), 0); Due.is("seven ahead", x.told(0, 5), 7);
    Due.of(11, "-5: none such; -7: what");
    for (int p : new int[] {MIN, -1, 8, MAX}) Due.is("p " + p, x.told(p, 6), -5);
    for (int what : new int[] {MIN, -1, 6, MAX}) Due.is("what " + what, x.told(0, what), -7);
  }

  // ---- ladders, fires

  private static void ladder() {
    Due.of(12, "how HIGH, the first RUNG that doesn't HOLD (-1: none), how much all but who is at RUNG 0 WEIGH");
    LadderOfRescued x = Due.saved(8, 99, 343);
    Due.is("eight", x.ladder(0), 792); Due.is("it holds", x.ladder(1), -1); Due.is("weight", x.ladder(2), 343);
    x.put(0, 1, 342);
    Due.is("rung 0", x.ladder(1), 0);
    LadderOfRescued y = Due.saved(1, 99, 0);
    Due.is("one", y.ladder(0), 99); Due.is("it holds", y.ladder(1), -1); Due.is("nothing above", y.ladder(2), 0);
    Due.of(12, "the first RUNG that doesn't HOLD: up to the last");
    LadderOfRescued z = Due.saved(8, 0, 0);
    Due.is("none", z.ladder(1), -1);
    for (int p = 7; p > 0; p--) { z.feud(p, p - 1, 1); Due.is("rung " + p, z.ladder(1), p); }
    z.put(7, 0, 2);
    Due.is("rung 0", z.ladder(1), 0);
    Due.of(12, "BAD");
    for (int what : new int[] {MIN, -1, 3, MAX}) Due.is("what " + what, x.ladder(what), -2);
  }

  private static void stand() {
    Due.of(13, "Of a LADDER that a SHEET tells, RUNG by RUNG, likewise: of nobody, of one, of eight");
    LadderOfRescued x = Due.anew();
    for (int p = 0; p < 8; p++) Due.who(x, 5, 9, 1 + p, 35 - p);
    Due.ints(x, 0);
    Due.is("high", x.stand(0, 0), 0); Due.is("holds", x.stand(0, 1), -1); Due.is("weight", x.stand(0, 2), 0);
    Due.ints(x, 0, 7);
    Due.is("high", x.stand(0, 0), 8); Due.is("holds", x.stand(0, 1), -1); Due.is("weight", x.stand(0, 2), 0);
    Due.ints(x, 0, 7, 6, 5, 4, 3, 2, 1, 0);
    Due.is("high", x.stand(0, 0), 36); Due.is("holds", x.stand(0, 1), -1); Due.is("weight", x.stand(0, 2), 28);
    x.put(7, 1, 27);
    Due.is("rung 0", x.stand(0, 1), 0);
    x.put(7, 1, 28); x.feud(0, 1, 1);
    Due.is("rung 7", x.stand(0, 1), 7);
    Due.of(13, "BAD: it tells more than 8, one who is none such, one twice");
    Due.ints(x, 0, 0, 1, 2, 3, 4, 5, 6, 7, 0); Due.is("nine", x.stand(0, 0), -2);
    for (int bad : new int[] {MIN, -1, 8, 9, 32, 256, 65536, MAX}) {
      Due.ints(x, 0, bad); Due.is("" + bad, x.stand(0, 0), -2);
      Due.ints(x, 0, 0, bad); Due.is("above 0: " + bad, x.stand(0, 9), -2);
    }
    Due.ints(x, 0, 3, 3); Due.is("twice", x.stand(0, 0), -2);
    Due.ints(x, 0, 7, 0, 1, 2, 3, 4, 5, 7); Due.is("first and last", x.stand(0, 0), -2);
    x.sheet(0, 2, 40); Due.is("forty", x.stand(0, 0), -2);
    Due.of(13, "BAD: one who is none such, by how many PEOPLE there are");
    LadderOfRescued y = Due.anew();
    Due.ints(y, 0, 0);
    Due.is("nobody there", y.stand(0, 0), -2);
    Due.who(y, 0, 0, 5, 0);
    Due.is("one there", y.stand(0, 0), 5);
    Due.ints(y, 0, 1);
    Due.is("no other there", y.stand(0, 0), -2);
    Due.of(13, "numbers of bytes and shorts are their lowest 8, 16 bits");
    Due.row(y, 1, 0, 256); Due.is("a byte of 256", y.stand(1, 0), 5);
    Due.row(y, 1, 0, 255); Due.is("a byte of 255", y.stand(1, 0), -2);
    Due.row(y, 1, 1, 65536); Due.is("a short of 65536", y.stand(1, 0), 5);
    Due.row(y, 1, 1, 256); Due.is("a short of 256", y.stand(1, 0), -2);
    Due.of(13, "BAD: SHEET; -11; .. -7: what");
    for (int s : new int[] {MIN, -1, 4, MAX}) Due.is("sheet " + s, y.stand(s, 9), -2);
    Due.is("missing", y.stand(3, 9), -11);
    Due.ints(y, 0, 0);
    for (int what : new int[] {MIN, -1, 3, MAX}) Due.is("what " + what, y.stand(0, what), -7);
  }

  private static void fire() {
    Due.of(14, "A FIRE, truly: 1 SAVED, 0 not: as HIGH as the window, 1 lower");
    for (int n = 0; n < 8; n++) {
      LadderOfRescued x = Due.saved(n, 11, 999);
      Due.who(x, 0, 0, 1, 0);
      x.winters(999);
      Due.is("1 lower than " + n, x.fire(n, 11 * n + 1), 0); Due.is("rust", x.count(2), 999); Due.is("saved", x.count(1), n);
      Due.is("as high as " + n, x.fire(n, 11 * n), 1); Due.is("rust", x.count(2), 0); Due.is("saved", x.count(1), n + 1);
      Due.is("behind all others", x.told(n, 5), n);
    }
    Due.of(14, "if THE LADDER HOLDS (that one is not on it yet)");
    LadderOfRescued y = Due.saved(1, 11, 0);
    Due.who(y, 0, 0, 99, 0);
    y.feud(0, 1, 1);
    Due.is("who would not hold", y.fire(1, 0), 1);
    Due.is("now it doesn't", y.ladder(1), 0);
    Due.who(y, 0, 0, 0, 0);
    Due.is("then nobody is saved", y.fire(2, 0), 0);
    Due.of(14, "-5: none such; -7: window; STATE: one is SAVED");
    for (int p : new int[] {MIN, -1, 3, MAX}) Due.is("p " + p, y.fire(p, -1), -5);
    for (int window : new int[] {MIN, -1, 1000, MAX}) { Due.is("window " + window, y.fire(2, window), -7); Due.is("of one saved", y.fire(0, window), -7); }
    Due.is("saved", y.fire(0, 0), -3); Due.is("saved", y.fire(1, 999), -3);
    Due.is("how many", y.count(1), 2);
  }

  private static void door() {
    Due.of(15, "One is SAVED, truly, behind all others, by the door: how many are (RUST stays)");
    LadderOfRescued x = Due.anew();
    for (int p = 0; p < 8; p++) Due.who(x, 0, 0, 99, 0);
    x.winters(999);
    for (int i = 0; i < 8; i++) { int p = (3 * i + 5) % 8; Due.is("door", x.door(p), i + 1); Due.is("rung", x.told(p, 5), i); Due.is("rust", x.count(2), 999); }
    Due.of(15, "-5: none such; STATE: one is SAVED");
    for (int p = 0; p < 8; p++) Due.is("again", x.door(p), -3);
    for (int p : new int[] {MIN, -1, 8, MAX}) Due.is("p " + p, x.door(p), -5);
    Due.is("how many", x.count(1), 8);
    Due.of(15, "by the door: also if THE LADDER doesn't HOLD");
    Due.is("it doesn't", x.ladder(1), 0);
  }

  // ---- what is best

  private static void best(LadderOfRescued x, int n, int digits, int high) {
    Due.is("digits of " + n, x.highest(n, 0), digits);
    Due.is("high of " + n, x.highest(n, 1), high);
  }

  private static void highest() {
    Due.of(16, "Of all LADDERS of n (0 .. 5) or fewer who are SAVED");
    LadderOfRescued x = Due.saved(6, 10, 999);
    int[] digits = {-1, 1, 12, 123, 1234, 12345};
    for (int n = 0; n < 6; n++) best(x, n, digits[n], 10 * n);
    for (int n = 5; n >= 0; n--) best(x, n, digits[n], 10 * n);
    LadderOfRescued two = Due.saved(2, 10, 999);
    best(two, 2, 12, 20); best(two, 3, 12, 20); best(two, 5, 12, 20);
    Due.of(16, "who are SAVED: nobody else");
    LadderOfRescued y = Due.anew();
    for (int p = 0; p < 8; p++) Due.who(y, 0, 0, 90 + p, 999);
    best(y, 5, -1, 0);
    y.door(0);
    best(y, 5, 1, 90);
    y.door(7);
    best(y, 1, 8, 97); best(y, 5, 18, 187);
    Due.of(16, "digits (what 0; -1: none is higher than 0), how HIGH (1; 0)");
    LadderOfRescued z = Due.saved(8, 0, 999);
    best(z, 0, -1, 0); best(z, 5, -1, 0);
    z.put(7, 0, 1);
    best(z, 0, -1, 0); best(z, 1, 8, 1);
    Due.of(16, "that HOLD: as much as all above WEIGH, 1 less");
    LadderOfRescued h = Due.anew();
    Due.who(h, 0, 0, 10, 5); Due.who(h, 0, 0, 11, 0);
    Due.door(h, 0, 1);
    best(h, 2, 12, 21);
    h.put(0, 1, 4);
    best(h, 2, 2, 11);
    h.put(1, 1, 5);
    best(h, 2, 21, 21);
    h.feud(0, 1, 1);
    best(h, 2, 2, 11);
    Due.of(16, "that HOLD: all above, together, at five");
    LadderOfRescued f = Due.anew();
    for (int p = 0; p < 5; p++) Due.who(f, 5, 9, 10, 40 - 10 * p);
    for (int p = 4; p >= 0; p--) f.door(p);
    best(f, 5, 12345, 50);
    for (int p = 0; p < 4; p++) { f.put(p, 1, 39 - 10 * p); best(f, 5, 1234, 40); f.put(p, 1, 40 - 10 * p); }
    Due.of(16, "by RUNG: who RISES and BEARS by it");
    Due.law(f, "height + rung * more", "999 - (rung = 3) * 999", "1");
    best(f, 5, 1234, 40 + 9 * 6);
    Due.of(16, "BAD");
    for (int n : new int[] {MIN, -1, 6, MAX}) { Due.is("n " + n, x.highest(n, 0), -2); Due.is("n " + n, x.highest(n, 1), -2); }
    for (int what : new int[] {MIN, -1, 2, MAX}) Due.is("what " + what, x.highest(5, what), -2);
  }

  private static void highestOfLikeOnes() {
    Due.of(16, "Of like ones the first that is found: one is looked at ahead of all that go on from it");
    LadderOfRescued x = Due.anew();
    Due.who(x, 0, 0, 5, 999); Due.who(x, 0, 0, 0, 999); Due.who(x, 0, 0, 0, 999);
    Due.door(x, 2, 1, 0);
    best(x, 3, 1, 5);
    x.put(0, 0, 0); x.put(1, 0, 5);
    best(x, 3, 12, 5); best(x, 1, 2, 5);
    x.put(1, 0, 0); x.put(2, 0, 5);
    best(x, 3, 123, 5); best(x, 2, 13, 5); best(x, 1, 3, 5);
    Due.of(16, "Of like ones the first that is found: all that go on from one ahead of who is next");
    LadderOfRescued y = Due.anew();
    Due.who(y, 0, 0, 5, 999); Due.who(y, 0, 0, 10, 999); Due.who(y, 0, 0, 5, 999);
    y.feud(0, 1, 1); y.feud(1, 2, 1);
    Due.door(y, 1, 2, 0);
    best(y, 2, 13, 10); best(y, 1, 2, 10);
    Due.of(16, "these by who is next, the least number first (not who was SAVED first)");
    LadderOfRescued z = Due.anew();
    for (int p = 0; p < 8; p++) Due.who(z, 0, 0, 7, 999);
    for (int p = 7; p >= 0; p--) z.door(p);
    best(z, 1, 1, 7); best(z, 4, 1234, 28); best(z, 5, 12345, 35);
    z.feud(0, 1, 1);
    best(z, 2, 13, 14); best(z, 3, 132, 21);
  }

  private static void fewest() {
    Due.of(17, "The least n (0 .. 5) by which that one is as HIGH as a window or higher; -1: none");
    LadderOfRescued x = Due.saved(8, 10, 999);
    Due.is("0", x.fewest(0), 0);
    for (int n = 1; n <= 5; n++) { Due.is("just " + n, x.fewest(10 * n), n); Due.is("1 more than " + (n - 1), x.fewest(10 * n - 9), n); }
    Due.is("51", x.fewest(51), -1); Due.is("80", x.fewest(80), -1); Due.is("999", x.fewest(999), -1);
    Due.of(17, "(0 .. 5): nobody who isn't SAVED, nor a LADDER that doesn't HOLD");
    LadderOfRescued y = Due.anew();
    Due.who(y, 0, 0, 10, 0); Due.who(y, 0, 0, 10, 0);
    Due.is("nobody", y.fewest(1), -1);
    Due.door(y, 0, 1);
    Due.is("10", y.fewest(10), 1); Due.is("11", y.fewest(11), -1);
    y.put(0, 1, 5);
    Due.is("11", y.fewest(11), 2); Due.is("20", y.fewest(20), 2); Due.is("21", y.fewest(21), -1);
    Due.of(17, "BAD");
    for (int window : new int[] {MIN, -1, 1000, MAX}) Due.is("" + window, y.fewest(window), -2);
  }

  private static void missed() {
    Due.of(18, "(what 0; -1: nobody is), how HIGH it is then (1; as now, if nobody is)");
    LadderOfRescued x = Due.anew();
    for (int p = 0; p < 8; p++) Due.who(x, 0, 0, 10, 999);
    Due.is("nobody", x.missed(0), -1); Due.is("nobody", x.missed(1), 0);
    x.door(5);
    Due.is("one", x.missed(0), 5); Due.is("one", x.missed(1), 0);
    Due.of(18, "of like ones the first SAVED");
    Due.door(x, 7, 0);
    Due.is("of three", x.missed(0), 5); Due.is("of three", x.missed(1), 20);
    Due.of(18, "the HIGHEST of 4 or fewer");
    Due.door(x, 1, 2);
    Due.is("of five", x.missed(0), 5); Due.is("of five", x.missed(1), 40);
    Due.door(x, 3, 4, 6);
    Due.is("of eight", x.missed(0), 5); Due.is("of eight", x.missed(1), 40);
    Due.of(18, "the one without whom it is least");
    x.put(6, 0, 11);
    Due.is("the last saved", x.missed(0), 6); Due.is("the last saved", x.missed(1), 40);
    x.put(5, 0, 11);
    Due.is("the first of two", x.missed(0), 5); Due.is("the first of two", x.missed(1), 41);
    x.put(5, 0, 0);
    Due.is("not who is low", x.missed(0), 6);
    Due.of(18, "BAD");
    for (int what : new int[] {MIN, -1, 2, MAX}) Due.is("what " + what, x.missed(what), -2);
  }

  private static void next() {
    Due.of(19, "(what 0; -1: none), how HIGH (1; as THE LADDER is, if none)");
    LadderOfRescued x = Due.saved(8, 10, 999);
    Due.is("all are saved", x.next(0), -1); Due.is("as it is", x.next(1), 80);
    LadderOfRescued y = Due.anew();
    Due.is("nobody is there", y.next(0), -1); Due.is("as it is", y.next(1), 0);
    Due.who(y, 0, 0, 0, 9);
    Due.is("the only one", y.next(0), 0); Due.is("0 high", y.next(1), 0);
    y.door(0);
    Due.who(y, 0, 0, 0, 9);
    Due.is("who adds nothing", y.next(0), 1); Due.is("0 high", y.next(1), 0);
    Due.of(19, "of like ones the first");
    LadderOfRescued z = Due.anew();
    for (int p = 0; p < 8; p++) Due.who(z, 0, 0, 40, 999);
    z.door(0);
    Due.is("of seven", z.next(0), 1); Due.is("high", z.next(1), 80);
    z.put(7, 0, 41);
    Due.is("the last", z.next(0), 7); Due.is("high", z.next(1), 81);
    z.put(3, 0, 41);
    Due.is("the first of two", z.next(0), 3);
    Due.of(19, "if it HOLDS then: just so much, a FEUD with who is at the top");
    z.put(0, 1, 20);
    Due.is("41 weighs 20", z.next(0), 3);
    z.put(0, 1, 19);
    Due.is("40 weighs 20", z.next(0), -1); Due.is("as it is", z.next(1), 40);
    z.put(0, 1, 20); z.feud(0, 3, 1);
    Due.is("no feud", z.next(0), 7);
    z.feud(0, 7, 1);
    Due.is("no feud", z.next(0), 1);
    Due.of(19, "if it HOLDS then: if THE LADDER doesn't already");
    z.door(1); z.feud(0, 1, 1);
    Due.is("none", z.next(0), -1); Due.is("as it is", z.next(1), 80);
    Due.of(19, "on top of THE LADDER: of all who are SAVED, in that order");
    LadderOfRescued v = Due.anew();
    Due.who(v, 0, 0, 10, 5); Due.who(v, 0, 0, 20, 999); Due.who(v, 0, 0, 11, 0); Due.who(v, 0, 0, 10, 0);
    Due.door(v, 1, 0);
    v.feud(1, 3, 1);
    Due.is("a feud with the lower one", v.next(0), 2); Due.is("high", v.next(1), 41);
    v.feud(0, 2, 1);
    Due.is("a feud with the upper one", v.next(0), 3); Due.is("high", v.next(1), 40);
    v.put(0, 1, 4);
    Due.is("who is too heavy for the upper one", v.next(0), -1); Due.is("as it is", v.next(1), 30);
    Due.of(19, "on top of THE LADDER: at RUNG 7");
    LadderOfRescued w = Due.saved(7, 1, 999);
    Due.who(w, 0, 0, 50, 0);
    Due.law(w, "height * (rung = 7)", "strong", "1");
    Due.is("the eighth", w.next(0), 7); Due.is("high", w.next(1), 50);
    Due.of(19, "BAD");
    for (int what : new int[] {MIN, -1, 2, MAX}) Due.is("what " + what, w.next(what), -2);
  }

  private static void rusts() {
    Due.of(20, "The fewest winters more (0 .. 99) by which THE LADDER is lower than a window; -1: none");
    LadderOfRescued x = Due.saved(1, 50, 0);
    Due.is("as high", x.rusts(50), -1); Due.is("1 higher", x.rusts(51), 0); Due.is("0", x.rusts(0), -1); Due.is("999", x.rusts(999), 0);
    Due.law(x, "99 - rust", "1", "1");
    Due.is("99", x.rusts(99), 1); Due.is("1", x.rusts(1), 99); Due.is("0", x.rusts(0), -1); Due.is("lower now", x.rusts(100), 0);
    x.winters(98);
    Due.is("1 from 98 on", x.rusts(1), 1);
    x.winters(99);
    Due.is("1 from 99 on", x.rusts(1), 0); Due.is("0 from 99 on", x.rusts(0), -1);
    Due.law(x, "(rust < 200) * 9", "1", "1");
    x.winters(100);
    Due.is("100 are too many", x.rusts(9), -1);
    x.winters(101);
    Due.is("99 are not", x.rusts(9), 99);
    Due.of(20, "(RUST 999 at most)");
    Due.law(x, "(rust < 999) * 9", "1", "1");
    x.winters(900); Due.is("999", x.rusts(9), 99);
    x.winters(998); Due.is("999", x.rusts(9), 1);
    x.winters(999); Due.is("999", x.rusts(9), 0);
    Due.law(x, "(rust < 1000) * 9", "1", "1");
    for (int rust : new int[] {900, 901, 998, 999}) { x.winters(rust); Due.is("never 1000 from " + rust, x.rusts(9), -1); Due.is("rust stays", x.count(2), rust); }
    Due.law(x, "9 - (rust = 0) * 9", "1", "1");
    for (int rust : new int[] {901, 950, 999}) { x.winters(rust); Due.is("never 0 from " + rust, x.rusts(9), -1); }
    Due.of(20, "THE LADDER is lower than a window: whether it HOLDS or not");
    LadderOfRescued y = Due.saved(2, 50, 0);
    Due.is("it doesn't", y.ladder(1), 0); Due.is("as high", y.rusts(100), -1); Due.is("1 higher", y.rusts(101), 0);
    Due.of(20, "BAD");
    for (int window : new int[] {MIN, -1, 1000, MAX}) Due.is("" + window, x.rusts(window), -2);
  }

  private static void part(String call, long above, long below, long wantAbove, long wantBelow) {
    Due.is(call + " above", above, wantAbove);
    Due.is(call + " below", below, wantBelow);
  }

  private static void come() {
    Due.of(21, "Of the first n (0 .. how many are SAVED)");
    for (int saved = 0; saved <= 8; saved++) {
      LadderOfRescued x = Due.saved(saved, 0, 0);
      part("of nobody", x.come(0, 0), x.come(0, 1), 1, 1);
      long above = 1, below = 1;
      for (int i = 0; i < saved; i++) { above *= 4; below *= 5; }
      part("of all " + saved, x.come(saved, 0), x.come(saved, 1), above, below);
      for (int n : new int[] {MIN, -1, saved + 1, MAX}) part(n + " of " + saved, x.come(n, 0), x.come(n, 1), NO, NO);
    }
    Due.of(21, "part 0 above, 1 below the line, in lowest terms: from 0 to 100");
    LadderOfRescued y = Due.saved(8, 0, 0);
    Due.law(y, "1", "1", "0");
    part("0", y.come(8, 0), y.come(8, 1), 0, 1); part("nobody", y.come(0, 0), y.come(0, 1), 1, 1);
    Due.law(y, "1", "1", "100");
    part("100", y.come(8, 0), y.come(8, 1), 1, 1);
    Due.law(y, "1", "1", "1");
    part("1", y.come(8, 0), y.come(8, 1), 1, 10000000000000000L);
    Due.law(y, "1", "1", "99");
    part("99", y.come(8, 0), y.come(8, 1), 9227446944279201L, 10000000000000000L);
    Due.law(y, "1", "1", "100 - (rung = 7) * 100");
    part("7 come", y.come(7, 0), y.come(7, 1), 1, 1); part("the eighth doesn't", y.come(8, 0), y.come(8, 1), 0, 1);
    LadderOfRescued z = Due.saved(8, 0, 0);
    Due.law(z, "1", "1", "50");
    part("50", z.come(8, 0), z.come(8, 1), 1, 256);
    Due.law(z, "1", "1", "98");
    part("98", z.come(8, 0), z.come(8, 1), 33232930569601L, 39062500000000L);
    Due.of(21, "NO: none such");
    for (int part : new int[] {MIN, -1, 2, MAX}) Due.is("part " + part, z.come(0, part), NO);
  }

  private static void reach() {
    Due.of(22, "Of all sets of those who are SAVED (nobody, too)");
    for (int saved = 0; saved <= 8; saved++) {
      LadderOfRescued x = Due.saved(saved, 10, 999);
      int all = 1 << saved;
      part("0 of " + saved, x.reach(0, 0), x.reach(0, 1), 1, 1);
      if (saved > 0) part("1: all but nobody of " + saved, x.reach(1, 0), x.reach(1, 1), all - 1, all);
      if (saved > 0) part("all of " + saved, x.reach(10 * saved, 0), x.reach(10 * saved, 1), 1, all);
      part("higher than all of " + saved, x.reach(10 * saved + 1, 0), x.reach(10 * saved + 1, 1), 0, 1);
      part("999 of " + saved, x.reach(999, 0), x.reach(999, 1), 0, 1);
    }
    Due.of(22, "those that are as HIGH as a window or higher, and HOLD");
    LadderOfRescued y = Due.anew();
    Due.who(y, 0, 0, 10, 10); Due.who(y, 0, 0, 20, 0);
    Due.door(y, 0, 1);
    part("30", y.reach(30, 0), y.reach(30, 1), 1, 4); part("31", y.reach(31, 0), y.reach(31, 1), 0, 1);
    part("20", y.reach(20, 0), y.reach(20, 1), 1, 2); part("21", y.reach(21, 0), y.reach(21, 1), 1, 4);
    y.put(0, 1, 9);
    part("0", y.reach(0, 0), y.reach(0, 1), 3, 4); part("10", y.reach(10, 0), y.reach(10, 1), 1, 2); part("11", y.reach(11, 0), y.reach(11, 1), 1, 4);
    y.put(0, 1, 10); y.feud(0, 1, 1);
    part("0", y.reach(0, 0), y.reach(0, 1), 3, 4);
    Due.of(22, "each a LADDER in that order: those with a FEUD, if one is right above the other");
    LadderOfRescued z = Due.saved(3, 10, 999);
    z.feud(0, 2, 1);
    part("0", z.reach(0, 0), z.reach(0, 1), 7, 8);
    Due.of(22, "NO: none such");
    for (int window : new int[] {MIN, -1, 1000, MAX}) part("window " + window, z.reach(window, 0), z.reach(window, 1), NO, NO);
    for (int part : new int[] {MIN, -1, 2, MAX}) Due.is("part " + part, z.reach(0, part), NO);
  }

  private static void chain() {
    Due.of(23, "Who would be SAVED at last (bits; those who are already, too)");
    for (int saved = 0; saved <= 8; saved++) {
      LadderOfRescued x = Due.saved(saved, 10, 999);
      for (int p = saved; p < 8; p++) Due.who(x, 0, 0, 10, 999);
      Due.is("as high as " + saved, x.chain(10 * saved), 255);
      Due.is("1 higher than " + saved, x.chain(10 * saved + 1), (1 << saved) - 1);
      Due.is("999 of " + saved, x.chain(999), (1 << saved) - 1);
      Due.is("nobody was saved by it", x.count(1), saved);
    }
    Due.of(23, "the least number first (and again from the least on, whenever one is)");
    LadderOfRescued z = Due.anew();
    Due.who(z, 0, 0, 10, 0); Due.who(z, 0, 0, 20, 0); Due.who(z, 0, 0, 0, 999);
    z.door(2);
    Due.is("0 is saved, then 1", z.chain(0), 7);
    Due.who(z, 0, 0, 5, 0);
    Due.is("0 bears not 1: 3 is not saved", z.chain(0), 7);
    z.put(0, 1, 10);
    Due.is("0 bears 1: 3 is saved last", z.chain(0), 15);
    z.put(0, 1, 999); z.put(1, 1, 1);
    Due.who(z, 0, 0, 0, 0);
    Due.is("1 bears not 3: 4 is not saved", z.chain(0), 15);
    Due.of(23, "were there a FIRE: RUST is 0 then");
    LadderOfRescued y = Due.anew();
    for (int p = 0; p < 3; p++) Due.who(y, 5, 0, 10, 999);
    y.door(0); y.winters(1);
    Due.is("7 high now", y.chain(8), 1); Due.is("20 high after the first", y.chain(7), 7); Due.is("rust stays", y.count(2), 1);
    Due.of(23, "as long as anybody is SAVED by it: a window that only more of them reach");
    LadderOfRescued w = Due.anew();
    for (int p = 0; p < 3; p++) Due.who(w, 0, 0, 10, 999);
    w.door(1);
    Due.is("10", w.chain(10), 7); Due.is("11", w.chain(11), 2);
    Due.of(23, "BAD");
    for (int window : new int[] {MIN, -1, 1000, MAX}) Due.is("" + window, w.chain(window), -2);
  }

  // ---- told nights

  private static LadderOfRescued heap() {
    LadderOfRescued x = Due.anew();
    for (int p = 0; p < 8; p++) { Due.who(x, 0, 0, 1 + p, 0); x.door(p); }
    x.film(0);
    return x;
  }

  private static void judge() {
    Due.of(24, "the first RUNG that is otherwise; -1: none");
    LadderOfRescued x = heap();
    Due.is("as it is", x.judge(0), -1);
    int high = 0;
    for (int rung = 0; rung < 8; rung++) {
      high += 1 + rung;
      x.cell(0, rung, high - 1); Due.is("1 less at " + rung, x.judge(0), rung);
      x.cell(0, rung, high + 1); Due.is("1 more at " + rung, x.judge(0), rung);
      x.cell(0, rung, MIN); Due.is("the least at " + rung, x.judge(0), rung);
      x.cell(0, rung, high);
    }
    x.cell(0, 3, 99); x.cell(0, 5, 99); x.cell(0, 7, 99);
    Due.is("the first of three", x.judge(0), 3);
    Due.of(24, "a SHEET that tells nothing, fewer, all; BAD: it tells more than are SAVED");
    for (int saved = 0; saved <= 8; saved++) {
      LadderOfRescued y = Due.saved(saved, 0, 0);
      for (int told = 0; told <= 9; told++) { y.sheet(1, 2, told); Due.is(told + " of " + saved, y.judge(1), told > saved ? -2 : -1); }
      y.sheet(1, 2, 40); Due.is("40 of " + saved, y.judge(1), -2);
    }
    Due.of(24, "BAD: SHEET; -11");
    for (int s : new int[] {MIN, -1, 4, MAX}) Due.is("sheet " + s, x.judge(s), -2);
    for (int s = 1; s < 4; s++) Due.is("missing", x.judge(s), -11);
    Due.of(24, "by bytes and shorts: as far as they go");
    LadderOfRescued z = Due.saved(2, 64, 0);
    Due.row(z, 1, 0, 64, 128); Due.is("128 is no byte", z.judge(1), 1);
    z.put(1, 0, 63); Due.row(z, 1, 0, 64, 127); Due.is("127 is one", z.judge(1), -1);
    z.put(1, 0, 64); Due.row(z, 1, 1, 64, 128); Due.is("128 is a short", z.judge(1), -1);
  }

  private static void kinds() {
    Due.of(25, "KINDS (sort 0; bits 0 .. 5), MORE (1; bits 0 .. 9): all, none, the first, the last");
    LadderOfRescued x = Due.anew();
    Due.who(x, 0, 0, 2, 0); Due.who(x, 2, 4, 50, 0); Due.who(x, 0, 0, 30, 0);
    Due.door(x, 0, 1);
    Due.ints(x, 0);
    for (int p = 0; p < 3; p++) { Due.is("nothing told", x.kinds(0, p, 0), 63); Due.is("nothing told", x.kinds(0, p, 1), 1023); }
    Due.ints(x, 0, 3);
    for (int p = 0; p < 3; p++) { Due.is("untrue", x.kinds(0, p, 0), 0); Due.is("untrue", x.kinds(0, p, 1), 0); }
    Due.ints(x, 0, 2, 61);
    Due.is("9 more", x.kinds(0, 1, 1), 512); Due.is("by 4 more none", x.kinds(0, 1, 0), 0);
    Due.ints(x, 0, 2, 52);
    Due.is("0 more", x.kinds(0, 1, 1), 1); Due.is("no lady, no child", x.kinds(0, 1, 0), 1 | 2 | 8 | 32);
    Due.ints(x, 0, 2, 62); Due.is("10 more", x.kinds(0, 1, 1), 0);
    Due.ints(x, 0, 2, 56); Due.is("a lady", x.kinds(0, 1, 0), 4); Due.is("4 more", x.kinds(0, 1, 1), 16);
    Due.ints(x, 0, 2, 27); Due.is("a child", x.kinds(0, 1, 0), 16); Due.is("a lady is none", x.kinds(0, 1, 1), 0);
    x.winters(5);
    Due.ints(x, 0, 2, 49); Due.is("a sleeper", x.kinds(0, 1, 0), 32);
    x.winters(4);
    Due.is("who is awake", x.kinds(0, 1, 0), 0);
    Due.of(25, "of one by which that would be -1: one who isn't SAVED, one above what is told");
    Due.ints(x, 0, 2);
    for (int p = 1; p < 3; p++) { Due.is("all", x.kinds(0, p, 0), 63); Due.is("all", x.kinds(0, p, 1), 1023); }
    Due.is("0 itself, 2 high", x.kinds(0, 0, 0), 1 | 2 | 4 | 8);
    Due.is("as it was", x.told(1, 2), 2); Due.is("as it was", x.told(1, 3), 4);
    Due.of(25, "MORE of one by which that would be -1: of each of eight");
    LadderOfRescued y = Due.anew();
    for (int p = 0; p < 8; p++) { Due.who(y, 2, p + 2, 10 + p, 0); y.door(p); }
    y.film(0);
    for (int p = 0; p < 8; p++) { Due.is("kind of " + p, y.kinds(0, p, 0), 4); Due.is("more of " + p, y.kinds(0, p, 1), 1 << (p + 2)); }
    for (int p = 0; p < 8; p++) { Due.is("height of " + p, y.heights(0, p, 0), 1); Due.is("height of " + p, y.heights(0, p, 1), 10 + p); }
    Due.of(25, "BAD, -11, BAD likewise; -5: none such; -7: sort");
    for (int s : new int[] {MIN, -1, 4, MAX}) Due.is("sheet " + s, x.kinds(s, -1, -1), -2);
    Due.is("missing", x.kinds(3, -1, -1), -11);
    Due.ints(x, 0, 2, 52, 60); Due.is("more than are saved", x.kinds(0, -1, -1), -2);
    Due.ints(x, 0, 2, 52);
    for (int p : new int[] {MIN, -1, 3, MAX}) Due.is("p " + p, x.kinds(0, p, -1), -5);
    for (int sort : new int[] {MIN, -1, 2, MAX}) Due.is("sort " + sort, x.kinds(0, 0, sort), -7);
  }

  private static void heights() {
    Due.of(26, "HEIGHTS (0 .. 99): how many (what 0), the least (1; -1: none)");
    LadderOfRescued x = Due.anew();
    Due.who(x, 0, 0, 50, 0); Due.who(x, 4, 0, 50, 0); Due.who(x, 0, 0, 50, 0);
    Due.door(x, 0, 1);
    Due.ints(x, 0);
    for (int p = 0; p < 3; p++) { Due.is("any", x.heights(0, p, 0), 100); Due.is("any", x.heights(0, p, 1), 0); }
    Due.ints(x, 0, 0); Due.is("0", x.heights(0, 0, 0), 1); Due.is("0", x.heights(0, 0, 1), 0);
    Due.is("by who is above, none", x.heights(0, 1, 0), 0); Due.is("none", x.heights(0, 1, 1), -1);
    Due.ints(x, 0, 99); Due.is("99", x.heights(0, 0, 0), 1); Due.is("99", x.heights(0, 0, 1), 99);
    Due.ints(x, 0, 100); Due.is("100", x.heights(0, 0, 0), 0); Due.is("100", x.heights(0, 0, 1), -1);
    Due.ints(x, 0, -1); Due.is("-1", x.heights(0, 0, 0), 0); Due.is("-1", x.heights(0, 0, 1), -1);
    Due.ints(x, 0, 50, 50); Due.is("a child of 0, 1", x.heights(0, 1, 0), 2); Due.is("least", x.heights(0, 1, 1), 0);
    Due.ints(x, 0, 50, 99); Due.is("a child of 98, 99", x.heights(0, 1, 0), 2); Due.is("least", x.heights(0, 1, 1), 98);
    Due.ints(x, 0, 50, 100); Due.is("no child", x.heights(0, 1, 0), 0);
    Due.of(26, "of one by which that would be -1: one who isn't SAVED");
    Due.ints(x, 0, 50, 75); Due.is("any", x.heights(0, 2, 0), 100); Due.is("any", x.heights(0, 2, 1), 0);
    Due.ints(x, 0, 50, 76); Due.is("none", x.heights(0, 2, 0), 0); Due.is("none", x.heights(0, 2, 1), -1);
    Due.is("as it was", x.told(1, 0), 50);
    Due.of(26, "BAD, -11, BAD, -5 likewise; -7: what");
    for (int s : new int[] {MIN, -1, 4, MAX}) Due.is("sheet " + s, x.heights(s, -1, -1), -2);
    Due.is("missing", x.heights(3, -1, -1), -11);
    for (int p : new int[] {MIN, -1, 3, MAX}) Due.is("p " + p, x.heights(0, p, -1), -5);
    for (int what : new int[] {MIN, -1, 2, MAX}) Due.is("what " + what, x.heights(0, 0, what), -7);
    Due.ints(x, 0, 1, 2, 3); Due.is("more than are saved", x.heights(0, -1, -1), -2);
  }

  private static void years() {
    Due.of(27, "RUST (0 .. 99): how many (what 0), the least (1; -1: none)");
    LadderOfRescued x = Due.saved(1, 50, 0);
    x.winters(999);
    Due.ints(x, 0, 50); Due.is("any", x.years(0, 0), 100); Due.is("any", x.years(0, 1), 0);
    Due.ints(x, 0, 51); Due.is("none", x.years(0, 0), 0); Due.is("none", x.years(0, 1), -1);
    Due.law(x, "rust", "1", "1");
    for (int rust : new int[] {0, 1, 98}) { Due.ints(x, 0, rust); Due.is("by " + rust, x.years(0, 0), 1); Due.is("by " + rust, x.years(0, 1), rust); }
    Due.ints(x, 0, 99); Due.is("by 99", x.years(0, 0), 1); Due.is("by 99", x.years(0, 1), 99);
    Due.ints(x, 0, 100); Due.is("by 100", x.years(0, 0), 0); Due.is("by 100", x.years(0, 1), -1);
    Due.law(x, "(rust < 100) * 5", "1", "1");
    Due.ints(x, 0, 5); Due.is("less than 100", x.years(0, 0), 100);
    Due.ints(x, 0, 0); Due.is("100 and more are not asked", x.years(0, 0), 0); Due.is("though it is so now", x.judge(0), -1);
    Due.is("rust stays", x.count(2), 999);
    Due.of(27, "a SHEET that tells nothing");
    Due.ints(x, 0); Due.is("any", x.years(0, 0), 100); Due.is("any", x.years(0, 1), 0);
    Due.of(27, "BAD, -11, BAD likewise; -7: what");
    for (int s : new int[] {MIN, -1, 4, MAX}) Due.is("sheet " + s, x.years(s, -1), -2);
    Due.is("missing", x.years(3, -1), -11);
    for (int what : new int[] {MIN, -1, 2, MAX}) Due.is("what " + what, x.years(0, what), -7);
    Due.ints(x, 0, 1, 2); Due.is("more than are saved", x.years(0, -1), -2);
  }

  private static void rows(LadderOfRescued x, String told, int many, int first) {
    Due.is(told + ", how many", x.whose(0, 0), many);
    Due.is(told + ", the first", x.whose(0, 1), first);
  }

  private static void whose() {
    Due.of(28, "how many (what 0), the first of them by digits (1; 0: none, nothing told)");
    LadderOfRescued x = Due.anew();
    for (int p = 0; p < 8; p++) Due.who(x, 0, 0, 10, 0);
    for (int p = 7; p >= 0; p--) x.door(p);
    int[] high = {10, 20, 30, 40, 50, 60, 70, 80};
    int[] many = {1, 8, 56, 336, 1680, 6720, 20160, 40320, 40320};
    int[] first = {0, 1, 12, 123, 1234, 12345, 123456, 1234567, 12345678};
    for (int told = 0; told <= 8; told++) {
      Due.ints(x, 0, java.util.Arrays.copyOf(high, told));
      rows(x, told + " told", many[told], first[told]);
    }
    for (int rung = 0; rung < 8; rung++) { x.cell(0, rung, high[rung] + 1); rows(x, "untrue at " + rung, 0, 0); x.cell(0, rung, high[rung]); }
    Due.of(28, "Rows of those who are SAVED, none twice: nobody else, as many as it tells");
    LadderOfRescued y = Due.anew();
    Due.who(y, 0, 0, 10, 0); Due.who(y, 0, 0, 20, 0); Due.who(y, 0, 0, 30, 0);
    Due.ints(y, 0);
    rows(y, "nobody saved, nothing told", 1, 0);
    Due.door(y, 2, 0);
    Due.ints(y, 0, 20); rows(y, "who isn't saved", 0, 0);
    Due.ints(y, 0, 30, 60); rows(y, "one twice", 0, 0);
    Due.ints(y, 0, 10, 40); rows(y, "in another order", 1, 13);
    Due.ints(y, 0, 30, 40); rows(y, "as it is", 1, 31);
    Due.ints(y, 0, 10); rows(y, "one of two", 1, 1);
    Due.ints(y, 0, 40); rows(y, "two at once", 0, 0);
    Due.ints(y, 0, -10, 0); rows(y, "below 0", 0, 0);
    Due.ints(y, 0, MAX, MIN + 9); rows(y, "far", 0, 0);
    Due.ints(y, 0, 10, MIN); rows(y, "farther", 0, 0);
    Due.of(28, "the first of them by digits: all eight, the other way round");
    LadderOfRescued z = Due.anew();
    for (int p = 0; p < 8; p++) { Due.who(z, 0, 0, 1 << Math.min(6, p), 0); z.door(p); }
    Due.ints(z, 0, 64, 128, 160, 176, 184, 188, 190, 191);
    rows(z, "7 and 8 are alike", 2, 78654321);
    z.put(7, 0, 65); Due.ints(z, 0, 65, 129, 161, 177, 185, 189, 191, 192);
    rows(z, "all unlike", 1, 87654321);
    Due.of(28, "the first of them by digits: where who is least leads nowhere");
    LadderOfRescued v = Due.anew();
    for (int p = 0; p < 8; p++) { Due.who(v, 0, p, 10, 0); v.door(p); }
    Due.law(v, "10 + (rung = 7) * (more = 0) * 5", "1", "1");
    Due.ints(v, 0, 10, 20, 30, 40, 50, 60, 70, 85);
    rows(v, "0 last", 5040, 23456781);
    Due.of(28, "it need not HOLD");
    z.feud(7, 6, 1);
    rows(z, "with a feud", 1, 87654321);
    Due.of(28, "BAD, -11, BAD likewise; -7: what");
    for (int s : new int[] {MIN, -1, 4, MAX}) Due.is("sheet " + s, y.whose(s, -1), -2);
    Due.is("missing", y.whose(3, -1), -11);
    for (int what : new int[] {MIN, -1, 2, MAX}) Due.is("what " + what, y.whose(0, what), -7);
    Due.ints(y, 0, 1, 2, 3); Due.is("more than are saved", y.whose(0, -1), -2);
  }

  private static void laws() {
    Due.of(29, "TEXTS (bits), were they THE LAW, by which that would be -1: all, none, the first, the last");
    LadderOfRescued x = Due.saved(1, 7, 0);
    Due.ints(x, 0, 7);
    Due.is("the only one", x.laws(0), 1);
    for (int t = 1; t < 6; t++) Due.read(x, "tall " + t + ";bears 0;comes 0;");
    Due.is("the first", x.laws(0), 1);
    for (int t = 1; t < 6; t++) { Due.ints(x, 0, t); Due.is("only " + t, x.laws(0), 1 << t); }
    Due.ints(x, 0, 6); Due.is("none", x.laws(0), 0);
    Due.ints(x, 0); Due.is("nothing told", x.laws(0), 63);
    x.force(5);
    Due.ints(x, 0, 1); Due.is("whichever is the law", x.laws(0), 2); Due.is("it stays", x.count(4), 5);
    x.put(0, 0, 5); Due.ints(x, 0, 5); Due.is("the first and the last", x.laws(0), 33);
    Due.of(29, "BAD, -11, BAD likewise");
    for (int s : new int[] {MIN, -1, 4, MAX}) Due.is("sheet " + s, x.laws(s), -2);
    Due.is("missing", x.laws(3), -11);
    Due.ints(x, 0, 5, 5); Due.is("more than are saved", x.laws(0), -2);
  }

  private static void film() {
    Due.of(30, "A SHEET truly becomes that (ints): how many RUNGS");
    for (int saved = 0; saved <= 8; saved++) {
      LadderOfRescued x = Due.saved(saved, 99, 0);
      for (int s = 0; s < 4; s++) {
        x.sheet(s, s - 1, 40);
        Due.is("how many", x.film(s), saved);
        Due.is("ints", x.peopleBy(s, 2, 0, 0), 0);
        Due.is("as it is", x.judge(s), -1);
        Due.is("none behind", x.cell(s, saved, 0), -12);
        if (saved > 0) { Due.is("the last", x.cell(s, saved - 1, 99 * saved - 1), 1); Due.is("was so", x.judge(s), saved - 1); }
      }
    }
    Due.of(30, "BAD: SHEET");
    LadderOfRescued y = Due.anew();
    for (int s : new int[] {MIN, -1, 4, MAX}) Due.is("sheet " + s, y.film(s), -2);
    Due.of(30, "it is kept, whatever becomes of THE LADDER");
    LadderOfRescued z = Due.saved(2, 10, 0);
    z.film(3);
    z.put(0, 0, 11);
    Due.is("otherwise now", z.judge(3), 0);
  }

  // ---- fires by lots

  private static int[] fallen(int seed, int many, int percent) {
    int[] come = new int[many];
    long lot = seed + 1L;
    for (int i = 0; i < many; i++) { lot = lot * 48271L % 2147483647L; come[i] = lot % 100 < percent ? 1 : 0; }
    return come;
  }

  private static void drawn() {
    Due.of(31, "FIRES by a SEED (0 .. 99999): how HIGH, the first RUNG that doesn't HOLD (-1: none), how many come");
    LadderOfRescued x = Due.saved(8, 10, 999);
    for (int seed : new int[] {0, 1, 99998, 99999}) {
      int n = 0;
      for (int one : fallen(seed, 8, 80)) n += one;
      Due.is("how many by " + seed, x.drawn(seed, 2), n); Due.is("how high by " + seed, x.drawn(seed, 0), 10 * n); Due.is("holds", x.drawn(seed, 1), -1);
    }
    Due.of(31, "the first RUNG that doesn't HOLD, of those who come");
    LadderOfRescued y = Due.anew();
    for (int p = 0; p < 4; p++) { Due.who(y, 0, p, 10, 999); y.door(p); }
    y.feud(3, 1, 1);
    Due.law(y, "height", "strong", "(not more = 2) * 100");
    Due.is("0, 1, 3 come", y.drawn(0, 2), 3); Due.is("3 is above 1", y.drawn(0, 1), 2);
    Due.law(y, "height", "strong", "100");
    Due.is("all come", y.drawn(0, 1), -1);
    Due.law(y, "height", "strong", "(more = 1 or more = 3) * 100");
    Due.is("3 is above 1", y.drawn(0, 1), 1);
    Due.law(y, "height", "strong", "(more = 3) * 100");
    Due.is("3 alone", y.drawn(0, 1), -1); Due.is("3 alone", y.drawn(0, 2), 1); Due.is("3 alone", y.drawn(0, 0), 10);
    Due.of(31, "BAD");
    for (int seed : new int[] {MIN, -1, 100000, MAX}) Due.is("seed " + seed, y.drawn(seed, 0), -2);
    for (int what : new int[] {MIN, -1, 3, MAX}) Due.is("what " + what, y.drawn(0, what), -2);
    Due.is("who is saved stays", y.count(1), 4);
  }

  private static void odds() {
    Due.of(32, "so many (1 .. 60) seeds, SEED and each 1 more (they may pass 99999)");
    LadderOfRescued x = Due.saved(1, 10, 0);
    Due.law(x, "height", "strong", "50");
    for (int seed : new int[] {0, 1, 50000, 99940, 99941, 99999}) {
      for (int seeds : new int[] {1, 2, 59, 60}) {
        int many = 0;
        for (int i = 0; i < seeds; i++) many += fallen(seed + i, 1, 50)[0];
        long above = x.odds(seed, seeds, 10, 0), below = x.odds(seed, seeds, 10, 1);
        Due.is(seeds + " from " + seed, above * seeds, many * below);
        Due.yes("in lowest terms", java.math.BigInteger.valueOf(above).gcd(java.math.BigInteger.valueOf(below)).intValue() == 1);
      }
    }
    Due.of(32, "it is as HIGH as a window or higher, and HOLDS: all, none");
    LadderOfRescued y = Due.saved(2, 10, 5);
    Due.law(y, "height", "strong", "100");
    part("20", y.odds(0, 60, 20, 0), y.odds(0, 60, 20, 1), 1, 1); part("21", y.odds(0, 60, 21, 0), y.odds(0, 60, 21, 1), 0, 1);
    part("999", y.odds(0, 60, 999, 0), y.odds(0, 60, 999, 1), 0, 1); part("0", y.odds(99999, 1, 0, 0), y.odds(99999, 1, 0, 1), 1, 1);
    y.put(0, 1, 4);
    part("it doesn't hold", y.odds(0, 60, 0, 0), y.odds(0, 60, 0, 1), 0, 1);
    y.put(0, 1, 5); y.feud(0, 1, 1);
    part("a feud", y.odds(0, 60, 0, 0), y.odds(0, 60, 0, 1), 0, 1);
    Due.law(y, "height", "strong", "0");
    part("nobody comes, 0", y.odds(0, 60, 0, 0), y.odds(0, 60, 0, 1), 1, 1); part("nobody comes, 1", y.odds(0, 60, 1, 0), y.odds(0, 60, 1, 1), 0, 1);
    Due.of(32, "NO: none such");
    for (int part = 0; part < 2; part++) {
      for (int seed : new int[] {MIN, -1, 100000, MAX}) Due.is("seed " + seed, y.odds(seed, 1, 0, part), NO);
      for (int seeds : new int[] {MIN, -1, 0, 61, MAX}) Due.is("seeds " + seeds, y.odds(0, seeds, 0, part), NO);
      for (int window : new int[] {MIN, -1, 1000, MAX}) Due.is("window " + window, y.odds(0, 1, window, part), NO);
    }
    for (int part : new int[] {MIN, -1, 2, MAX}) Due.is("part " + part, y.odds(0, 1, 0, part), NO);
  }

  private static void image() {
    Due.of(33, "AN IMAGE is kept: how many PEOPLE: from nobody to eight");
    LadderOfRescued x = Due.anew();
    for (int p = 0; p <= 8; p++) { Due.is("image", x.image(), p); Due.is("back", x.back(), p); if (p < 8) x.person(0, 0); }
    Due.of(33, "AN IMAGE is kept: the last one");
    LadderOfRescued y = Due.saved(1, 10, 0);
    y.image(); y.winters(5); y.image(); y.winters(6); y.back();
    Due.is("rust", y.count(2), 5);
    y.winters(7); y.back();
    Due.is("it stays kept", y.count(2), 5);
    Due.of(33, "an image changes nothing");
    Due.is("people", y.count(0), 1); Due.is("saved", y.count(1), 1); Due.is("height", y.told(0, 0), 10);
  }

  private static void back() {
    Due.of(34, "STATE: there is none");
    LadderOfRescued x = Due.saved(2, 10, 0);
    Due.is("none", x.back(), -3); Due.is("people", x.count(0), 2); Due.is("saved", x.count(1), 2);
    Due.of(34, "PEOPLE that came since are none: how many there are");
    LadderOfRescued y = Due.anew();
    y.image();
    for (int p = 0; p < 8; p++) { Due.who(y, 0, 0, 50, 0); y.door(p); }
    Due.is("full", y.person(0, 0), -4);
    Due.is("nobody", y.back(), 0); Due.is("nobody", y.count(0), 0); Due.is("nobody saved", y.count(1), 0);
    for (int what = 0; what < 6; what++) Due.is("told", y.told(0, what), -5);
    Due.is("taken", y.taken(0, 0), -11); Due.is("high", y.ladder(0), 0); Due.is("chain", y.chain(0), 0);
    for (int p = 0; p < 8; p++) { Due.is("there is room again", y.person(59, 99999), p); Due.is("not saved", y.told(p, 5), -1); }
    Due.is("full again", y.person(0, 0), -4);
    Due.of(34, "as in THE IMAGE: who was SAVED since is not, in which order they were");
    LadderOfRescued z = Due.anew();
    for (int p = 0; p < 8; p++) Due.who(z, 0, 0, 50, 0);
    Due.door(z, 7, 3, 5);
    z.image();
    Due.door(z, 0, 1, 2, 4, 6);
    z.back();
    int[] rungs = {-1, -1, -1, 1, -1, 2, -1, 0};
    for (int p = 0; p < 8; p++) Due.is("rung of " + p, z.told(p, 5), rungs[p]);
    Due.is("who is saved next is behind them", z.door(0), 4); Due.is("rung", z.told(0, 5), 3);
    Due.of(34, "THE LAW is as in THE IMAGE, TEXTS that came since stay");
    LadderOfRescued w = Due.anew();
    Due.read(w, "tall 1;bears 1;comes 1;");
    w.force(1); w.image();
    Due.read(w, "tall 2;bears 2;comes 2;");
    w.force(2); w.back();
    Due.is("the law", w.count(4), 1); Due.is("texts", w.count(3), 3); Due.is("the later one", w.force(2), 1);
  }

  // ---- the host

  private static void sheet() {
    Due.of(35, "A SHEET becomes a row of n of a sort, or missing (sort -1: n does not matter): 1");
    LadderOfRescued x = Due.anew();
    for (int s = 0; s < 4; s++) {
      for (int sort = 0; sort < 3; sort++) {
        for (int n : new int[] {0, 1, 39, 40}) {
          Due.is("sheet", x.sheet(s, sort, n), 1);
          Due.is("its last", x.cell(s, n - 1, 1), n > 0 ? 1 : -12); Due.is("none behind", x.cell(s, n, 1), -12);
        }
      }
      for (int n : new int[] {MIN, -1, 0, 40, 41, MAX}) {
        x.sheet(s, 0, 1);
        Due.is("missing", x.sheet(s, -1, n), 1); Due.is("it is", x.cell(s, 0, 1), -11);
      }
      Due.is("missing again", x.sheet(s, -1, 0), 1);
    }
    Due.of(35, "all 0");
    LadderOfRescued y = Due.anew();
    for (int sort = 0; sort < 3; sort++) {
      y.sheet(0, sort, 16);
      for (int i = 0; i < 16; i++) y.cell(0, i, 9);
      y.sheet(0, sort, 16);
      y.image();
      Due.is("eight persons", y.peopleBy(0, sort, 0, 8), 8);
      for (int p = 0; p < 8; p++) for (int what = 0; what < 4; what++) Due.is("all 0", y.told(p, what), 0);
      y.back();
    }
    Due.of(35, "BAD: SHEET, sort, n above 40; -14");
    Due.ints(y, 2, 7);
    for (int s : new int[] {MIN, -1, 4, MAX}) { Due.is("sheet " + s, y.sheet(s, 0, 0), -2); Due.is("sheet " + s, y.sheet(s, -1, -1), -2); }
    for (int sort : new int[] {MIN, -2, 3, MAX}) { Due.is("sort " + sort, y.sheet(2, sort, 0), -2); Due.is("sort " + sort, y.sheet(2, sort, -1), -2); }
    for (int sort = 0; sort < 3; sort++) {
      Due.is("41", y.sheet(2, sort, 41), -2); Due.is("most", y.sheet(2, sort, MAX), -2);
      Due.is("-1", y.sheet(2, sort, -1), -14); Due.is("least", y.sheet(2, sort, MIN), -14);
    }
    Due.is("it stays", y.cell(2, 0, 7), 1); Due.is("one number", y.cell(2, 1, 7), -12);
  }

  /** What became of a number in a sheet of a sort, by how high one is told who is so high; far ones only as otherwise. */
  private static boolean is(int sort, int v, int number) {
    LadderOfRescued x = Due.saved(2, Math.max(0, Math.min(99, number)), 0);
    x.put(1, 0, Math.max(0, Math.min(99, number - 99)));
    int high = x.ladder(0);
    if (high != number) return false;
    x.sheet(0, sort, 2);
    x.cell(0, 0, x.told(0, 0));
    x.cell(0, 1, v);
    return x.judge(0) == -1;
  }

  private static void cell() {
    Due.of(36, "Number i of a SHEET becomes v: the first, the last; -12");
    LadderOfRescued x = Due.anew();
    for (int n : new int[] {0, 1, 8, 40}) {
      for (int sort = 0; sort < 3; sort++) {
        x.sheet(1, sort, n);
        for (int i : new int[] {MIN, -1, n, n + 1, 40, MAX}) Due.is("place " + i + " of " + n, x.cell(1, i, 0), -12);
        if (n > 0) { Due.is("the first", x.cell(1, 0, MAX), 1); Due.is("the last", x.cell(1, n - 1, MIN), 1); }
      }
    }
    Due.of(36, "(of bytes, shorts its lowest 8, 16 bits)");
    Due.yes("127 is a byte", is(0, 127, 127));
    Due.yes("128 is none", !is(0, 128, 128)); Due.yes("255 is none", !is(0, 255, 255));
    Due.yes("256 is 0", is(0, 256, 0)); Due.yes("257 is 1", is(0, 257, 1)); Due.yes("383 is 127", is(0, 383, 127));
    Due.yes("-129 is 127", is(0, -129, 127)); Due.yes("-256 is 0", is(0, -256, 0)); Due.yes("-128 is not 128", !is(0, -128, 128));
    Due.yes("the least is 0", is(0, MIN, 0)); Due.yes("the most less 128 is 127", is(0, MAX - 128, 127));
    Due.yes("128 is a short", is(1, 128, 128)); Due.yes("65536 is 0", is(1, 65536, 0)); Due.yes("65537 is 1", is(1, 65537, 1));
    Due.yes("-65536 + 150 is 150", is(1, -65536 + 150, 150)); Due.yes("256 is not 0", !is(1, 256, 0)); Due.yes("the least is 0", is(1, MIN, 0));
    Due.yes("65536 is an int", !is(2, 65536, 0)); Due.yes("the least is an int", !is(2, MIN, 0)); Due.yes("150", is(2, 150, 150));
    Due.of(36, "(of shorts its lowest 16 bits), as people are told by them");
    LadderOfRescued y = Due.anew();
    int[] told = {32767, 32768, 65535, 65536 + 12034, -32769};
    int[] came = {1, 0, 0, 1, 1};
    for (int i = 0; i < 5; i++) { Due.row(y, 0, 1, 0, told[i]); Due.is("" + told[i], y.peopleBy(0, 1, 0, 1), came[i]); }
    Due.is("32767", 1000 * y.told(0, 0) + y.told(0, 1), 32767);
    Due.is("65536 + 12034", 1000 * y.told(1, 0) + y.told(1, 1), 12034);
    Due.is("-32769", 1000 * y.told(2, 0) + y.told(2, 1), 32767);
    Due.ints(y, 0, 0, 99999);
    Due.is("an int of 99999", y.peopleBy(0, 2, 0, 1), 1); Due.is("it is", 1000 * y.told(3, 0) + y.told(3, 1), 99999);
    Due.of(36, "BAD: SHEET; -11; -12");
    for (int s : new int[] {MIN, -1, 4, MAX}) Due.is("sheet " + s, x.cell(s, -1, 0), -2);
    Due.is("missing", x.cell(0, -1, 0), -11);
  }

  /** The people of a sheet of kinds and heights, as digits of their heights. */
  private static int read(LadderOfRescued x, int s, int sort, int numbers) {
    x.image();
    int digits = 0;
    for (int i = 0; i < numbers; i++) {
      x.back();
      x.sheet(3, sort, 2);
      x.copy(s, i, 3, 1, 1);
      x.peopleBy(3, sort, 0, 1);
      digits = digits * 10 + x.told(0, 1);
    }
    x.back();
    return digits;
  }

  private static void copy() {
    for (int sort = 0; sort < 3; sort++) {
      Due.of(37, "n numbers of a SHEET, from i on, come to another one's place j: n: none, one, all (sort " + sort + ")");
      LadderOfRescued x = Due.anew();
      Due.row(x, 0, sort, 1, 2, 3, 4, 5); Due.row(x, 1, sort, 6, 7, 8);
      Due.is("none", x.copy(0, 0, 1, 0, 0), 0); Due.is("none at both ends", x.copy(0, 5, 1, 3, 0), 0);
      Due.is("they stay", read(x, 1, sort, 3), 678);
      Due.is("the last one", x.copy(0, 4, 1, 2, 1), 1); Due.is("it came", read(x, 1, sort, 3), 675);
      Due.is("the first one", x.copy(0, 0, 1, 0, 1), 1); Due.is("it came", read(x, 1, sort, 3), 175);
      Due.is("all three", x.copy(0, 2, 1, 0, 3), 3); Due.is("they came", read(x, 1, sort, 3), 345); Due.is("theirs stay", read(x, 0, sort, 5), 12345);
      Due.of(37, "-12 (n below 0, too): by one past an end, by far (sort " + sort + ")");
      Due.is("from 3 three", x.copy(0, 3, 1, 0, 3), -12); Due.is("to 1 three", x.copy(0, 0, 1, 1, 3), -12);
      Due.is("none behind the end", x.copy(0, 6, 1, 0, 0), -12); Due.is("none behind the other's end", x.copy(0, 0, 1, 4, 0), -12);
      Due.is("six", x.copy(0, 0, 0, 0, 6), -12); Due.is("n -1", x.copy(0, 1, 1, 1, -1), -12); Due.is("n -1 at the end", x.copy(0, 5, 1, 3, -1), -12);
      Due.is("i -1", x.copy(0, -1, 1, 0, 2), -12); Due.is("j -1", x.copy(0, 0, 1, -1, 2), -12); Due.is("none at -1", x.copy(0, -1, 1, 0, 0), -12);
      for (int far : new int[] {MIN, MAX}) {
        for (int n = 0; n < 3; n++) { Due.is("i " + far, x.copy(0, far, 1, 0, n), -12); Due.is("j " + far, x.copy(0, 0, 1, far, n), -12); }
        for (int at = 0; at < 3; at++) { Due.is("n " + far, x.copy(0, at, 1, at, far), -12); }
        Due.is("all far", x.copy(0, far, 1, far, far), -12);
      }
      Due.is("nothing came", read(x, 1, sort, 3), 345); Due.is("nor went", read(x, 0, sort, 5), 12345);
    }
    for (int sort = 0; sort < 3; sort++) {
      Due.of(37, "(or its own) place j (as they were) (sort " + sort + ")");
      LadderOfRescued x = Due.anew();
      int[][] moves = {{0, 1, 4, 11234}, {1, 0, 4, 23455}, {0, 2, 3, 12123}, {2, 0, 3, 34545}, {0, 0, 5, 12345}, {0, 4, 1, 12341}, {4, 0, 1, 52345}, {2, 2, 0, 12345}};
      for (int[] m : moves) {
        Due.row(x, 0, sort, 1, 2, 3, 4, 5);
        Due.is("itself", x.copy(0, m[0], 0, m[1], m[2]), m[2]);
        Due.is(m[2] + " from " + m[0] + " to " + m[1], read(x, 0, sort, 5), m[3]);
      }
    }
    Due.of(37, "n numbers: all of forty");
    LadderOfRescued y = Due.anew();
    y.sheet(0, 2, 40); y.sheet(1, 2, 40);
    for (int i = 0; i < 40; i++) y.cell(0, i, i % 10);
    Due.is("forty", y.copy(0, 0, 1, 0, 40), 40); Due.is("forty-one", y.copy(0, 0, 1, 0, 41), -12);
    Due.is("the first of them", read(y, 1, 2, 4), 123);
    y.copy(1, 36, 1, 0, 4);
    Due.is("the last of them", read(y, 1, 2, 4), 6789);
    Due.of(37, "n numbers of a SHEET come to another one's: each of four to each");
    LadderOfRescued v = Due.anew();
    for (int s = 0; s < 4; s++) Due.who(v, 0, 0, 1 << s, 999);
    for (int s = 0; s < 4; s++) {
      for (int other = 0; other < 4; other++) {
        Due.ints(v, other, 3 - s); Due.ints(v, s, s);
        Due.is(s + " to " + other, v.copy(s, 0, other, 0, 1), 1);
        Due.is("it came", v.stand(other, 0), 1 << s); Due.is("it stays", v.stand(s, 0), 1 << s);
      }
    }
    Due.of(37, "BAD: SHEETS; -11; -13: unlike sorts; -12");
    LadderOfRescued z = Due.anew();
    for (int s : new int[] {MIN, -1, 4, MAX}) { Due.is("s " + s, z.copy(s, -1, 0, -1, -1), -2); Due.is("other " + s, z.copy(0, -1, s, -1, -1), -2); }
    Due.is("both missing", z.copy(0, -1, 1, -1, -1), -11); Due.is("itself missing", z.copy(0, 0, 0, 0, 0), -11);
    z.sheet(0, 0, 1);
    Due.is("one missing", z.copy(0, -1, 1, -1, -1), -11); Due.is("the other missing", z.copy(1, -1, 0, -1, -1), -11);
    for (int a = 0; a < 3; a++) {
      for (int b = 0; b < 3; b++) {
        z.sheet(0, a, 1); z.sheet(1, b, 1);
        Due.is("sorts " + a + " " + b, z.copy(0, 0, 1, 0, 1), a == b ? 1 : -13);
        Due.is("ahead of a place", z.copy(0, -1, 1, -1, -1), a == b ? -12 : -13);
        Due.is("of none too", z.copy(0, 0, 1, 0, 0), a == b ? 0 : -13);
      }
    }
  }

  private static LadderOfRescued told16() {
    LadderOfRescued x = Due.anew();
    x.sheet(0, 2, 16);
    for (int i = 0; i < 16; i++) x.cell(0, i, i);
    return x;
  }

  private static void peopleBy() {
    Due.of(38, "from a place on, two by two (as of person()), n of them (0 .. 8): how many came");
    for (int n = 0; n <= 8; n++) {
      LadderOfRescued x = told16();
      Due.is("n " + n, x.peopleBy(0, 2, 0, n), n); Due.is("people", x.count(0), n);
      for (int p = 0; p < n; p++) { Due.is("kind, more", 10 * x.told(p, 2) + x.told(p, 3), 2 * p); Due.is("strong", x.told(p, 1), 2 * p + 1); }
    }
    LadderOfRescued x = told16();
    Due.is("from 1", x.peopleBy(0, 2, 1, 1), 1); Due.is("its more", x.told(0, 3), 1); Due.is("its strong", x.told(0, 1), 2);
    Due.is("the last two", x.peopleBy(0, 2, 14, 1), 1); Due.is("its strong", x.told(1, 1), 15);
    Due.of(38, "-12: what stood ahead came");
    Due.is("the last one alone", x.peopleBy(0, 2, 15, 1), -12); Due.is("behind it", x.peopleBy(0, 2, 16, 1), -12);
    Due.is("ahead of the first", x.peopleBy(0, 2, -1, 1), -12); Due.is("two ahead", x.peopleBy(0, 2, -2, 2), -12);
    for (int far : new int[] {MIN, MIN + 1, -2, 17, MAX - 15, MAX - 1, MAX}) Due.is("from " + far, x.peopleBy(0, 2, far, 8), -12);
    Due.is("nobody came", x.count(0), 2);
    Due.is("two stood ahead", x.peopleBy(0, 2, 12, 3), -12); Due.is("they came", x.count(0), 4); Due.is("the last of them", x.told(3, 1), 15);
    Due.is("one stood ahead", x.peopleBy(0, 2, 13, 2), -12); Due.is("it came", x.count(0), 5); Due.is("it", x.told(4, 1), 14);
    LadderOfRescued none = Due.anew();
    none.sheet(0, 2, 0); none.sheet(1, 2, 1); none.sheet(2, 2, 2);
    Due.is("a sheet of no number", none.peopleBy(0, 2, 0, 1), -12); Due.is("of one", none.peopleBy(1, 2, 0, 1), -12); Due.is("of two", none.peopleBy(2, 2, 0, 1), 1);
    Due.is("of two, two persons", none.peopleBy(2, 2, 0, 2), -12); Due.is("one came", none.count(0), 2);
    Due.of(38, "(others are left out): who are BAD, who find it FULL");
    LadderOfRescued y = Due.anew();
    Due.ints(y, 0, 59, 99999, 60, 0, 0, 100000, -1, 0, 0, -1, MIN, MAX, 0, 0);
    Due.is("two of seven", y.peopleBy(0, 2, 0, 7), 2); Due.is("people", y.count(0), 2);
    Due.is("the first", y.told(0, 2), 5); Due.is("the last", y.told(1, 2), 0);
    Due.is("none of five", y.peopleBy(0, 2, 2, 5), 0); Due.is("people", y.count(0), 2);
    LadderOfRescued z = told16();
    for (int p = 0; p < 6; p++) z.person(0, 0);
    Due.is("room for two", z.peopleBy(0, 2, 0, 8), 2); Due.is("room for none", z.peopleBy(0, 2, 0, 8), 0); Due.is("people", z.count(0), 8);
    Due.is("a place outside, though full", z.peopleBy(0, 2, 2, 8), -12);
    Due.of(38, "BAD: SHEET, sort, n; -11; -13");
    for (int s : new int[] {MIN, -1, 4, MAX}) Due.is("sheet " + s, z.peopleBy(s, 2, 0, 1), -2);
    for (int sort : new int[] {MIN, -1, 3, MAX}) { Due.is("sort " + sort, z.peopleBy(0, sort, 0, 1), -2); Due.is("of a missing one", z.peopleBy(1, sort, 0, 1), -2); }
    for (int n : new int[] {MIN, -1, 9, MAX}) { Due.is("n " + n, z.peopleBy(0, 2, 0, n), -2); Due.is("of a missing one", z.peopleBy(1, 2, 0, n), -2); }
    for (int sort = 0; sort < 3; sort++) { Due.is("missing", z.peopleBy(1, sort, -1, 1), -11); Due.is("missing, none of them", z.peopleBy(1, sort, 0, 0), -11); }
    for (int sort = 0; sort < 2; sort++) { Due.is("of another sort", z.peopleBy(0, sort, -1, 1), -13); Due.is("none of them", z.peopleBy(0, sort, 0, 0), -13); }
    Due.of(38, "by bytes and shorts");
    LadderOfRescued w = Due.anew();
    Due.row(w, 0, 0, 59, 127, 59, 128, 256, 256); Due.is("bytes", w.peopleBy(0, 0, 0, 3), 2);
    Due.is("127", w.told(0, 1), 127); Due.is("256 is 0", w.told(1, 1), 0); Due.is("256 is 0", w.told(1, 2), 0);
    Due.row(w, 0, 1, 59, 32767, 59, 32768); Due.is("shorts", w.peopleBy(0, 1, 0, 2), 1); Due.is("32767", w.told(2, 0), 32);
  }

  private static void taken() {
    Due.of(39, "What lies at place i: 0 .. 7 PEOPLE, taken for 0 .. 5 one of that KIND (also of one that is one): the number");
    boolean[][] is = {{true, false, false, false, false, false}, {true, true, false, false, false, false}, {true, false, true, false, false, false},
        {true, true, false, true, false, false}, {true, false, true, false, true, false}, {true, false, false, false, false, true}};
    LadderOfRescued x = Due.anew();
    for (int p = 0; p < 8; p++) x.person(10 * (5 - p % 6), 0);
    for (int p = 0; p < 8; p++) {
      for (int kind = 0; kind < 6; kind++) Due.is(p + " for " + kind, x.taken(p, kind), is[5 - p % 6][kind] ? p : -13);
      Due.is(p + " for 6", x.taken(p, 6), -13);
    }
    Due.of(39, "8 .. 15 whether they are SAVED, 6 whether one is SAVED (1, 0)");
    for (int p = 0; p < 8; p++) {
      Due.is("not yet", x.taken(8 + p, 6), 0); x.door(p); Due.is("now", x.taken(8 + p, 6), 1);
      for (int kind = 0; kind < 6; kind++) Due.is(8 + p + " for " + kind, x.taken(8 + p, kind), -13);
    }
    Due.of(39, "BAD: kind; -12: i; -11: none such; -13");
    for (int kind : new int[] {MIN, -1, 7, MAX}) { Due.is("kind " + kind, x.taken(0, kind), -2); Due.is("kind " + kind, x.taken(16, kind), -2); }
    for (int i : new int[] {MIN, -1, 16, MAX}) for (int kind = 0; kind < 7; kind++) Due.is("i " + i, x.taken(i, kind), -12);
    LadderOfRescued y = Due.anew();
    for (int p = 0; p < 8; p++) {
      Due.is("none such", y.taken(p, 0), -11); Due.is("none such", y.taken(p, 6), -11);
      Due.is("none such", y.taken(8 + p, 6), -11); Due.is("none such", y.taken(8 + p, 0), -11);
      y.person(0, 0);
      Due.is("one such", y.taken(p, 0), p); Due.is("one such", y.taken(8 + p, 6), 0);
    }
  }
}
