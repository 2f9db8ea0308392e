/** Promises 10 to 13: THE TAPE, TEXTS, what a USE gives. */
public final class TextsTest {
  private static final Due due = new Due();

  public static void main(String[] args) {
    feed();
    text();
    faults();
    mostOpen();
    untell();
    lawWithout();
    signs();
    wrapping();
    usesInHomes();
    due.end();
  }

  private static void feed() {
    LoanedRound x = new LoanedRound();
    due.equal("feed 8", x.feed(0x2B2B2B2B2B2B2B73L, 8), 8);
    due.equal("feed 1 of more", x.feed(0x2B2B73L, 1), 9);
    due.equal("THE TAPE", x.count(8), 9);
    for (int i = 2; i < 8; i++) {
      x.feed(-1L, 8);
    }
    due.equal("THE TAPE", x.count(8), 57);
    due.equal("to the last", x.feed(0L, 3), 60);
    due.refused("feed(0, 0)", Due.BEYOND, Scenes::busy, y -> y.feed(0L, 0));
    due.refused("feed(0, 9)", Due.BEYOND, Scenes::busy, y -> y.feed(0L, 9));
    due.refused("feed(0, -1)", Due.BEYOND, Scenes::busy, y -> y.feed(0L, -1));
    due.refused("feed(0, 5) of 4 left", Due.FULL, TextsTest::nearlyFull, y -> y.feed(0L, 5));
    due.refused("feed(0, 9) of 4 left", Due.BEYOND, TextsTest::nearlyFull, y -> y.feed(0L, 9));
    lowestFirst();
  }

  private static LoanedRound nearlyFull() {
    LoanedRound x = new LoanedRound();
    Scenes.feed(x, "s" + "+1".repeat(27) + "0");
    return x;
  }

  /** "7-s" in one word, and a byte above 127 at the top of a long. */
  private static void lowestFirst() {
    LoanedRound x = new LoanedRound();
    due.equal("feed 7-s", x.feed(0x732D37L, 3), 3);
    due.equal("text 7-s", x.text(0), 1);
    due.equal("law 7-s", x.law(0, 3, 0, 0), 4);
    x.feed(0xB731313131313131L, 8);
    due.equal("the eighth byte", x.text(0), -10 - 4);
    Scenes.feed(x, "1+1+1+1");
    x.feed(0xABL, 1);
    due.equal("a byte that is '+' but for its highest bit", x.text(0), -10 - 7);
  }

  private static void text() {
    LoanedRound x = new LoanedRound();
    due.equal("text 0", Scenes.read(x, 0, "s+v*d"), 1);
    due.equal("THE TAPE is empty", x.count(8), 0);
    due.equal("law", x.law(0, 3, 4, 5), 23);
    due.equal("text 0 in place", Scenes.read(x, 0, "d-v"), 1);
    due.equal("law", x.law(0, 3, 4, 50), 46);
    due.equal("text 0 with a FAULT", Scenes.read(x, 0, "s+l"), -12);
    due.equal("THE TAPE is empty", x.count(8), 0);
    due.equal("the one ahead stays", x.law(0, 3, 4, 50), 46);
    due.equal("text 1 in between", x.law(1, 150, 4, 50), 50);
    due.equal("told", x.told(1) + x.told(2) + x.told(3) + x.told(4) + x.told(5) + x.told(6), 0);
    due.refused("text(2)", Due.BEYOND, Scenes::busy, y -> y.text(2));
    due.refused("text(-1)", Due.BEYOND, Scenes::busy, y -> y.text(-1));
    Scenes.feed(x, "1");
    x.text(2);
    due.equal("THE TAPE stays", x.count(8), 1);
    due.equal("and can be read", x.text(1), 1);
  }

  private static void faults() {
    due.fault(0, "", 0);
    due.fault(0, "s+", 2);
    due.fault(0, "(s", 2);
    due.fault(0, "!", 1);
    due.fault(0, "s ", 1);
    due.fault(0, " s", 0);
    due.fault(0, "l", 0);
    due.fault(1, "v", 0);
    due.fault(1, "l+s+d+v", 6);
    due.fault(0, "12345", 4);
    due.fault(0, "s5", 1);
    due.fault(0, "5s", 1);
    due.fault(0, "sv", 1);
    due.fault(0, "-1", 0);
    due.fault(0, "s--1", 2);
    due.fault(0, "s<v<d", 3);
    due.fault(0, "s<v=d", 3);
    due.fault(0, "(s<v)<(v<d", 10);
    due.fault(0, "()", 1);
    due.fault(0, "s)", 1);
    due.fault(0, "(s))", 3);
    due.fault(0, "s||v", 2);
    due.fault(0, "s&&v", 2);
    due.fault(0, "s|", 2);
    due.fault(0, "S", 0);
    due.fault(0, "s!", 1);
    due.fault(0, "s(v)", 1);
    due.fault(0, "(s)v", 3);
    due.fault(0, "!|", 1);
    due.fault(0, "s<", 2);
    due.fault(0, "s>=v", 2);
    due.fault(0, "1/*2", 2);
    due.fault(0, "s^v", 1);
  }

  private static void mostOpen() {
    due.gives(0, "!!!!!s", 7, 0, 0, 0);
    due.fault(0, "!!!!!!s", 5);
    due.gives(0, "(((((s)))))", 7, 0, 0, 7);
    due.fault(0, "((((((s))))))", 5);
    due.gives(0, "!(!(!s))", 7, 0, 0, 0);
    due.fault(0, "!(!(!(s)))", 5);
    due.fault(0, "!!!!!(s)", 5);
    due.fault(0, "(((((!s)))))", 5);
    due.gives(0, "(((((s)))))+(((((v)))))*!!!!!d", 7, 4, 0, 11);
    due.gives(0, "((((!s+!s))))", 0, 0, 0, 2);
    due.gives(0, "!s*!s*!s*!s*!s*!s+1", 0, 0, 0, 2);
  }

  private static void untell() {
    LoanedRound x = new LoanedRound();
    Scenes.read(x, 0, "5");
    Scenes.read(x, 1, "6");
    due.equal("untell(1)", x.untell(1), 1);
    due.equal("untell(1) again", x.untell(1), 0);
    due.equal("USE 0 stays", x.law(0, 1, 1, 1), 5);
    due.equal("USE 1", x.law(1, 1, 2, 3), 1);
    due.equal("untell(0)", x.untell(0), 1);
    due.equal("USE 0", x.law(0, 1, 2, 3), 1);
    due.refused("untell(2)", Due.BEYOND, Scenes::busy, y -> y.untell(2));
    due.refused("untell(-1)", Due.BEYOND, Scenes::busy, y -> y.untell(-1));
  }

  private static void lawWithout() {
    LoanedRound x = new LoanedRound();
    int[][] rows = {
      {0, 0, 0}, {99, 99, 99}, {100, 99, 0}, {-1, 0, 99}, {-100, 0, 0}, {-101, 0, 99},
      {250, 99, 50}, {Integer.MIN_VALUE, 0, 52}, {Integer.MAX_VALUE, 99, 47},
    };
    for (int[] row : rows) {
      due.equal("law(0, " + row[0] + ", 8, 9)", x.law(0, row[0], 8, 9), row[1]);
      due.equal("law(1, " + row[0] + ", 8, 9)", x.law(1, row[0], 8, 9), row[2]);
    }
    due.refused("law(2, ..)", Due.BEYOND, Scenes::busy, y -> y.law(2, 0, 0, 0));
    due.refused("law(-1, ..)", Due.BEYOND, Scenes::busy, y -> y.law(-1, 0, 0, 0));
  }

  private static void signs() {
    due.gives(0, "s|v", 0, 0, 0, 0);
    due.gives(0, "s|v", 0, 7, 0, 1);
    due.gives(0, "s|v", 5, 7, 0, 1);
    due.gives(0, "s|v|d", 0, 0, 3, 1);
    due.gives(0, "s&v", 5, 7, 0, 1);
    due.gives(0, "s&v", 5, 0, 0, 0);
    due.gives(0, "s&v|d", 5, 0, 2, 1);
    due.gives(0, "d|s&v", 5, 0, 2, 1);
    due.gives(0, "s", 7, 0, 0, 7);
    due.gives(0, "s<v", 6, 7, 0, 1);
    due.gives(0, "s<v", 7, 7, 0, 0);
    due.gives(0, "(s<v)+5", 7, 7, 0, 5);
    due.gives(0, "(s>v)+5", 7, 7, 0, 5);
    due.gives(0, "(s=v)+5", 7, 8, 0, 5);
    due.gives(0, "(s|v)+5", 0, 0, 0, 5);
    due.gives(0, "(s&v)+5", 7, 0, 0, 5);
    due.gives(0, "(!s)+5", 7, 0, 0, 5);
    due.gives(0, "s&v", 1, -1, 0, 1);
    due.gives(0, "s&v", -1, 1, 0, 1);
    due.gives(0, "s>v", 8, 7, 0, 1);
    due.gives(0, "s>v", 7, 7, 0, 0);
    due.gives(0, "s=v", 7, 7, 0, 1);
    due.gives(0, "s=v", 8, 7, 0, 0);
    due.gives(0, "s+1<v*2", 6, 4, 0, 1);
    due.gives(0, "s-v-d", 50, 20, 5, 25);
    due.gives(0, "s-(v-d)", 50, 20, 5, 35);
    due.gives(0, "s/v/d", 90, 3, 5, 6);
    due.gives(0, "s/v*d", 95, 10, 4, 36);
    due.gives(0, "s*v/d", 7, 5, 2, 17);
    due.gives(0, "s%v", 17, 5, 0, 2);
    due.gives(0, "s%v+9", -17, 5, 0, 7);
    due.gives(0, "s%v+9", 17, -5, 0, 11);
    due.gives(0, "s/v+9", -17, 5, 0, 6);
    due.gives(0, "s/v+9", 5, 0, 0, 9);
    due.gives(0, "s%v+9", 5, 0, 0, 9);
    due.gives(0, "!s", 0, 0, 0, 1);
    due.gives(0, "!s", -5, 0, 0, 0);
    due.gives(0, "!s+v", 0, 7, 0, 8);
    due.gives(0, "!(s+v)", 0, 7, 0, 0);
    due.gives(0, "s+v*d", 2, 3, 4, 14);
    due.gives(0, "(s+v)*d", 2, 3, 4, 20);
    due.gives(0, "0099", 2, 3, 4, 99);
    due.gives(1, "9999", 2, 3, 4, 99);
    due.gives(1, "0000", 2, 3, 4, 0);
    due.gives(1, "l-s*d", 2, 30, 4, 82);
    due.gives(1, "d", 2, 30, 4, 4);
    due.gives(1, "s", 2, 30, 4, 30);
  }

  private static void wrapping() {
    due.gives(1, "l*s", 1103515245, 1103515245, 0, 69);
    due.gives(1, "l+1", Integer.MAX_VALUE, 0, 0, 52);
    due.gives(1, "l-1", Integer.MIN_VALUE, 0, 0, 47);
    due.gives(1, "l/(0-1)", Integer.MIN_VALUE, 0, 0, 52);
    due.gives(1, "l%(0-1)", Integer.MIN_VALUE, 0, 0, 0);
    due.gives(0, "s*s", 65536, 0, 0, 0);
    due.gives(0, "s*s>0", 50000, 0, 0, 0);
  }

  /** VIEW 57, SHARP 43, DAY 13: v is 5, s of BEHIND is 4, d is 5. */
  private static void usesInHomes() {
    LoanedRound x = Scenes.ofAllKinds();
    x.set(0, 57);
    x.set(1, 43);
    x.day(13);
    Scenes.read(x, 0, "s*100+v*10+d-5700");
    due.equal("SAID AT a HOST", x.homeIs(0, 5), 55);
    Scenes.read(x, 0, "v");
    x.set(0, 50);
    due.equal("a tenth of 50", x.homeIs(0, 5), 5);
    x.set(0, 59);
    due.equal("a tenth of 59", x.homeIs(0, 5), 5);
    Scenes.read(x, 1, "s");
    x.set(1, 40);
    due.equal("a tenth of 40", x.homeIs(0, 6), 4);
    x.set(1, 49);
    due.equal("a tenth of 49", x.homeIs(0, 6), 4);
    x.set(0, 57);
    x.set(1, 43);
    x.untell(1);
    Scenes.read(x, 0, "s+5");
    due.equal("a WAKE tells 0", x.homeIs(6, 5), 5);
    Scenes.read(x, 0, "s+100");
    due.equal("SAID is held", x.homeIs(0, 5), 99);
    Scenes.read(x, 0, "s-100");
    due.equal("SAID is held", x.homeIs(0, 5), 0);
    Scenes.read(x, 1, "l*0+s*10+d");
    due.equal("BEHIND AT a HOST", x.homeIs(0, 6), 45);
    Scenes.read(x, 1, "l-100");
    due.equal("BEHIND is a rest", x.homeIs(0, 6), 61);
    Scenes.read(x, 1, "l+100");
    due.equal("BEHIND is a rest", x.homeIs(0, 6), 61);
  }
}
