/** Promises 10 to 13 at their bounds: THE TAPE, TEXTS, what a USE gives. */
public final class TextsBoundsTest {
  private static final Due due = new Due();

  public static void main(String[] args) {
    feedBounds();
    feedTakesTheLowest();
    feedToTheLast();
    feedFull();
    feedFullBehindBeyond();
    textBounds();
    textLeavesAnEmptyTape();
    textOfNoBytes();
    textOfAllBytes();
    textFaultLeavesTheOneAhead();
    textFaultIsNoError();
    digits();
    open();
    openAgain();
    ownNamesOfAUse();
    bytesThatAreNoSigns();
    endsTooEarly();
    untellBounds();
    untellOfNone();
    lawBounds();
    heldWithin();
    restByHundred();
    wrapping();
    byNought();
    cutTowardNought();
    truths();
    comparing();
    tenthsOfView();
    tenthsOfSharp();
    daysByEight();
    due.end();
  }

  /** Promise 10: n is 1 .. 8. */
  private static void feedBounds() {
    due.bounded("feed(-1, #)", 1, 8, Scenes::busy, (x, v) -> x.feed(-1L, v));
    due.bounded("new: feed(0, #)", 1, 8, LoanedRound::new, (x, v) -> x.feed(0L, v));
    due.equal("feed(.., 1)", new LoanedRound().feed(-1L, 1), 1);
    due.equal("feed(.., 8)", new LoanedRound().feed(0L, 8), 8);
  }

  /** Promise 10: the n lowest bytes, the lowest first, whatever stands above. */
  private static void feedTakesTheLowest() {
    String eight = "s-1-2-30";
    long word = 0;
    for (int i = 7; i >= 0; i--) {
      word = word << 8 | eight.charAt(i);
    }
    int[] given = {90, 0, 89, 0, 87, 0, 84, 57};
    for (int n = 1; n <= 8; n++) {
      LoanedRound x = new LoanedRound();
      x.feed(word, n);
      boolean isText = n == 8 || n % 2 == 1;
      due.equal("text of " + n + " bytes", x.text(0), isText ? 1 : -10 - n);
      due.equal("law of " + n + " bytes", x.law(0, 90, 0, 0), isText ? given[n - 1] : 90);
    }
    LoanedRound above = new LoanedRound();
    above.feed(0xFFFFFFFFFFFFFF35L, 1);
    due.equal("above it all bits are 1", above.text(0), 1);
    due.equal("law", above.law(0, 90, 0, 0), 5);
  }

  /** Terms 2: THE TAPE has at most 60 bytes. */
  private static void feedToTheLast() {
    due.equal("52 and 8", ofBytes(52).feed(-1L, 8), 60);
    due.equal("59 and 1", ofBytes(59).feed(-1L, 1), 60);
    due.equal("none and 8, seven times, and 4", ofBytes(56).feed(0L, 4), 60);
    LoanedRound x = ofBytes(59);
    x.feed('0', 1);
    due.equal("count(8)", x.count(8), 60);
    x.text(0);
    due.equal("again from none", x.feed(0L, 8), 8);
  }

  /** A TEXT's first bytes, as many as there shall be. */
  private static LoanedRound ofBytes(int n) {
    LoanedRound x = new LoanedRound();
    Scenes.feed(x, ("1" + "+1".repeat(30)).substring(0, n));
    return x;
  }

  /** Promise 10: FULL; nothing of the word comes then. */
  private static void feedFull() {
    due.refused("53 and 8", Due.FULL, () -> ofBytes(53), x -> x.feed(-1L, 8));
    due.refused("59 and 2", Due.FULL, () -> ofBytes(59), x -> x.feed(0x3131L, 2));
    due.refused("60 and 1", Due.FULL, () -> ofBytes(60), x -> x.feed('1', 1));
    due.refused("60 and 8", Due.FULL, Scenes::full, x -> x.feed(0L, 8));
    LoanedRound x = ofBytes(59);
    x.feed(0x3131L, 2);
    due.equal("still 59", x.count(8), 59);
    due.equal("and one more", x.feed('5', 1), 60);
  }

  /** Promise 10: BEYOND is asked ahead of FULL. */
  private static void feedFullBehindBeyond() {
    due.outside("at 60: feed(0, #)", 1, 8, Due.BEYOND, Scenes::full, (x, v) -> x.feed(0L, v));
    due.outside("at 59: feed(0, #)", 1, 8, Due.BEYOND, () -> ofBytes(59), (x, v) -> x.feed(0L, v));
  }

  /** Promise 11: a USE is 0 or 1; BEYOND, and THE TAPE stays. */
  private static void textBounds() {
    due.bounded("text(#)", 0, 1, Scenes::busy, (x, v) -> x.text(v));
    due.bounded("at 60: text(#)", 0, 1, Scenes::full, (x, v) -> x.text(v));
    due.bounded("new: text(#)", 0, 1, LoanedRound::new, (x, v) -> x.text(v));
    LoanedRound x = Scenes.full();
    x.text(2);
    x.text(-1);
    due.equal("THE TAPE stays", x.count(8), 60);
    due.equal("and is a TEXT", x.text(1), 1);
  }

  /** Promise 11: THE TAPE is empty then, with a FAULT, too. */
  private static void textLeavesAnEmptyTape() {
    LoanedRound x = Scenes.full();
    due.equal("text(0)", x.text(0), 1);
    due.equal("empty", x.count(8), 0);
    due.equal("no TEXT any more", x.text(0), -10);
    due.equal("the one ahead stays", x.law(0, 0, 0, 0), 39);
    due.equal("with a FAULT", Scenes.read(x, 0, "1+"), -12);
    due.equal("empty", x.count(8), 0);
  }

  private static void textOfNoBytes() {
    due.fault(0, "", 0);
    due.fault(1, "", 0);
  }

  /** TEXTS of 60 bytes, and FAULTS at the first one, amid them, at the last one, and behind it. */
  private static void textOfAllBytes() {
    String ones = "1" + "+1".repeat(29);
    due.gives(0, ones + "0", 0, 0, 0, 39);
    due.gives(0, "(s)" + "+(s)".repeat(13) + "+(00)", 6, 0, 0, 84);
    due.gives(0, "!!!!!s" + "*!!!!!s".repeat(7) + "*0001", 0, 0, 0, 1);
    due.gives(0, "1|" + "0|".repeat(28) + "00", 0, 0, 0, 1);
    due.gives(0, "0|1&1<1+1*(".repeat(4) + "0|1&1<1+2" + "))))" + "+00", 0, 0, 0, 1);
    due.gives(1, "l%" + "9999%".repeat(11) + "100", 9876, 0, 0, 76);
    due.fault(0, "+" + ones, 0);
    due.fault(0, "1+".repeat(15) + "+" + "1+".repeat(14) + "1", 30);
    due.fault(0, ones + "l", 59);
    due.fault(0, ones + "+", 60);
  }

  /** Promise 11: with a FAULT the one ahead stays; without one it is in its place. */
  private static void textFaultLeavesTheOneAhead() {
    for (int use = 0; use < 2; use++) {
      LoanedRound x = new LoanedRound();
      due.equal("a TEXT", Scenes.read(x, use, "7"), 1);
      due.equal("a FAULT at the end", Scenes.read(x, use, "8+"), -12);
      due.equal("it stays", x.law(use, 1, 2, 3), 7);
      due.equal("a FAULT at the begin", Scenes.read(x, use, "+8"), -10);
      due.equal("it stays", x.law(use, 1, 2, 3), 7);
      due.equal("no bytes", x.text(use), -10);
      due.equal("it stays", x.law(use, 1, 2, 3), 7);
      due.equal("in its place", Scenes.read(x, use, "9"), 1);
      due.equal("the new one", x.law(use, 1, 2, 3), 9);
      due.equal("the other USE has none", x.untell(1 - use), 0);
    }
  }

  private static void textFaultIsNoError() {
    due.allowed("text(0) of no bytes", LoanedRound::new, x -> x.text(0));
    due.allowed("text(0) of 59 bytes", () -> ofBytes(58), x -> x.text(0));
    due.allowed("text(1) of a NAME that is none", LoanedRound::new, x -> Scenes.read(x, 1, "v"));
  }

  /** A NUMBER has 1 to 4 digits. */
  private static void digits() {
    due.gives(0, "0", 1, 1, 1, 0);
    due.gives(0, "9", 1, 1, 1, 9);
    due.gives(0, "0000", 1, 1, 1, 0);
    due.gives(0, "0009", 1, 1, 1, 9);
    due.gives(0, "9999-9900", 1, 1, 1, 99);
    due.gives(1, "1000/100", 1, 1, 1, 10);
    due.fault(0, "00000", 4);
    due.fault(0, "99999", 4);
    due.fault(0, "12345", 4);
    due.fault(0, "1+12345", 6);
    due.fault(0, "(12345)", 5);
    due.fault(0, "!12345", 5);
    due.fault(0, "1234s", 4);
    due.fault(0, "s1234", 1);
  }

  /** At most 5 of ! and ( are open at once. */
  private static void open() {
    due.gives(0, "!!!!!s", 0, 0, 0, 1);
    due.fault(0, "!!!!!!s", 5);
    due.gives(0, "(((((s)))))", 7, 0, 0, 7);
    due.fault(0, "((((((s))))))", 5);
    due.gives(0, "((((!s))))", 0, 0, 0, 1);
    due.fault(0, "(((((!s)))))", 5);
    due.gives(0, "!!!!(s)", 8, 0, 0, 1);
    due.fault(0, "!!!!!(s)", 5);
    due.gives(0, "!(!(!7))", 0, 0, 0, 0);
    due.fault(0, "!(!(!(7)))", 5);
    due.fault(0, "(".repeat(60), 5);
    due.fault(0, "!".repeat(60), 5);
    due.fault(0, "(((((", 5);
    due.fault(0, "!!!!!", 5);
  }

  /** What is closed is not open any more: a ! with its Q, a ( with its ). */
  private static void openAgain() {
    due.gives(0, "(((((1)))))+(((((2)))))", 0, 0, 0, 3);
    due.fault(0, "(((((1)))))+((((((2", 17);
    due.gives(0, "!!!!!s+!!!!!s", 0, 0, 0, 2);
    due.fault(0, "!!!!!s+!!!!!!s", 12);
    due.gives(0, "((((!s+!s+(2)))))", 0, 0, 0, 4);
    due.fault(0, "((((!s+!!s))))", 8);
    due.fault(0, "((((!s+((2", 8);
    due.gives(0, "!(1)+!(0)+!!!!!0", 0, 0, 0, 2);
    due.gives(0, "!!!!!0|(((((0)))))&!!!!!0", 0, 0, 0, 1);
  }

  /** NAMES s, v, d of SAID; l, s, d of BEHIND. */
  private static void ownNamesOfAUse() {
    due.gives(0, "s", 11, 22, 33, 11);
    due.gives(0, "v", 11, 22, 33, 22);
    due.gives(0, "d", 11, 22, 33, 33);
    due.fault(0, "l", 0);
    due.gives(1, "l", 11, 22, 33, 11);
    due.gives(1, "s", 11, 22, 33, 22);
    due.gives(1, "d", 11, 22, 33, 33);
    due.fault(1, "v", 0);
  }

  /** The bytes next to the signs, and those that are alike but for their highest bit. */
  private static void bytesThatAreNoSigns() {
    String none = " \"#$',.:;?@ASVDL[\\]^_`acekmruw{}~";
    for (int i = 0; i < none.length(); i++) {
      due.fault(0, none.substring(i, i + 1), 0);
      due.fault(1, "7" + none.charAt(i), 1);
    }
    String signs = "svdl0123456789!(+-*/%<=>&|)";
    for (int i = 0; i < signs.length(); i++) {
      String high = String.valueOf((char) (signs.charAt(i) | 128));
      due.fault(0, high, 0);
      due.fault(0, "s" + high, 1);
    }
    due.fault(0, "\0", 0);
    due.fault(0, "s\0", 1);
    due.fault(0, "\u00ff", 0);
    due.fault(0, "s\u00ff", 1);
  }

  /** FAULT is how many bytes there are, if a TEXT would go on with them. */
  private static void endsTooEarly() {
    String[] starts = {"s+", "s-", "s*", "s/", "s%", "s<", "s=", "s>", "s&", "s|", "!", "(", "(s",
        "(s+", "((s)", "!!!!!", "(((((s))))", "1234+", "s|v&d<1+2*"};
    for (String start : starts) {
      due.fault(0, start, start.length());
    }
  }

  /** Promise 12. */
  private static void untellBounds() {
    due.bounded("untell(#)", 0, 1, Scenes::busy, (x, v) -> x.untell(v));
    due.bounded("new: untell(#)", 0, 1, LoanedRound::new, (x, v) -> x.untell(v));
  }

  /** The shortest TEXT is one, too; there is none behind a FAULT, and none twice. */
  private static void untellOfNone() {
    LoanedRound least = new LoanedRound();
    Scenes.read(least, 0, "+");
    due.equal("there was but a FAULT", least.untell(0), 0);
    Scenes.read(least, 0, "0");
    due.equal("there was the shortest", least.untell(0), 1);
    due.equal("there was none", least.untell(0), 0);
    for (int use = 0; use < 2; use++) {
      LoanedRound x = Scenes.full();
      due.equal("there was one", x.untell(use), 1);
      due.equal("there was none", x.untell(use), 0);
      due.equal("THE TAPE stays", x.count(8), 60);
      due.equal("the other USE's stays", x.untell(1 - use), 1);
    }
  }

  /** Promise 13: a, b, c are any number. */
  private static void lawBounds() {
    due.bounded("law(#, ..)", 0, 1, Scenes::busy, (x, v) -> x.law(v, 1, 2, 3));
    due.bounded("new: law(#, ..)", 0, 1, LoanedRound::new, (x, v) -> x.law(v, 1, 2, 3));
    due.gives(0, "s=v", Integer.MIN_VALUE, Integer.MIN_VALUE, 0, 1);
    due.gives(0, "v<d", 0, Integer.MIN_VALUE, Integer.MAX_VALUE, 1);
    due.gives(1, "l>s", Integer.MAX_VALUE, Integer.MIN_VALUE, 0, 1);
    due.gives(0, "s+v-d", Integer.MAX_VALUE, Integer.MAX_VALUE, -2, 0);
    due.gives(0, "d", 0, 0, Integer.MAX_VALUE, 99);
    due.gives(0, "d", 0, 0, Integer.MIN_VALUE, 0);
  }

  /** SAID is held within 0 .. 99, with a TEXT and without. */
  private static void heldWithin() {
    int[][] rows = {{Integer.MIN_VALUE, 0}, {-1, 0}, {0, 0}, {1, 1}, {98, 98}, {99, 99}, {100, 99},
        {199, 99}, {Integer.MAX_VALUE, 99}};
    for (int[] row : rows) {
      due.equal("SAID of " + row[0], new LoanedRound().law(0, row[0], 50, 50), row[1]);
      due.gives(0, "s", row[0], 50, 50, row[1]);
    }
  }

  /** BEHIND is the rest by 100, 100 more if that is below 0, with a TEXT and without. */
  private static void restByHundred() {
    int[][] rows = {{Integer.MIN_VALUE, 52}, {-200, 0}, {-199, 1}, {-101, 99}, {-100, 0},
        {-99, 1}, {-1, 99}, {0, 0}, {1, 1}, {99, 99}, {100, 0}, {101, 1}, {199, 99}, {200, 0},
        {Integer.MAX_VALUE, 47}};
    for (int[] row : rows) {
      due.equal("BEHIND of " + row[0], new LoanedRound().law(1, row[0], 50, 50), row[1]);
      due.gives(1, "l", row[0], 50, 50, row[1]);
    }
  }

  /** Ints that wrap. */
  private static void wrapping() {
    due.gives(1, "l+1", Integer.MAX_VALUE, 0, 0, 52);
    due.gives(1, "l+s", Integer.MIN_VALUE, -1, 0, 47);
    due.gives(1, "l-1", Integer.MIN_VALUE, 0, 0, 47);
    due.gives(1, "l-s", Integer.MAX_VALUE, -1, 0, 52);
    due.gives(1, "l*2", Integer.MIN_VALUE, 0, 0, 0);
    due.gives(1, "l*2", Integer.MAX_VALUE, 0, 0, 98);
    due.gives(1, "l*s", Integer.MIN_VALUE, -1, 0, 52);
    due.gives(1, "l/s", Integer.MIN_VALUE, -1, 0, 52);
    due.gives(1, "l%s+7", Integer.MIN_VALUE, -1, 0, 7);
    due.gives(0, "9999*9999*9999<0", 0, 0, 0, 1);
    due.gives(0, "9999*9999>0", 0, 0, 0, 1);
    due.gives(0, "s+1<s", Integer.MAX_VALUE, 0, 0, 1);
  }

  /** / and % by 0 are 0. */
  private static void byNought() {
    due.gives(0, "s/v+40", 7, 0, 0, 40);
    due.gives(0, "s%v+40", 7, 0, 0, 40);
    due.gives(0, "s/v+40", -7, 0, 0, 40);
    due.gives(0, "s%v+40", -7, 0, 0, 40);
    due.gives(0, "s/v+40", 0, 0, 0, 40);
    due.gives(0, "s%v+40", 0, 0, 0, 40);
    due.gives(0, "s/v+40", Integer.MIN_VALUE, 0, 0, 40);
    due.gives(0, "7/(s-s)+7%(v-v)+40", 1, 2, 0, 40);
    due.gives(0, "s/v+40", 7, 1, 0, 47);
    due.gives(0, "s/v+40", 7, -1, 0, 33);
  }

  /** / is cut toward 0, % is the rest that it leaves. */
  private static void cutTowardNought() {
    int[][] rows = {{7, 2, 3, 1}, {-7, 2, -3, -1}, {7, -2, -3, 1}, {-7, -2, 3, -1}, {1, 2, 0, 1},
        {-1, 2, 0, -1}, {1, -2, 0, 1}, {-1, -2, 0, -1}, {6, 2, 3, 0}, {-6, 2, -3, 0}};
    for (int[] row : rows) {
      due.gives(0, "s/v+40", row[0], row[1], 0, row[2] + 40);
      due.gives(0, "s%v+40", row[0], row[1], 0, row[3] + 40);
    }
  }

  /** What is not 0 is true, below 0, too; what is true is 1. */
  private static void truths() {
    int[] some = {1, -1, 2, 256, Integer.MIN_VALUE, Integer.MAX_VALUE};
    for (int v : some) {
      due.gives(0, "!s+40", v, 0, 0, 40);
      due.gives(0, "(s|v)+40", v, 0, 0, 41);
      due.gives(0, "(v|s)+40", v, 0, 0, 41);
      due.gives(0, "(s&d)+40", v, 0, 2, 41);
      due.gives(0, "(d&s)+40", v, 0, 2, 41);
      due.gives(0, "(s&v)+40", v, 0, 2, 40);
      due.gives(0, "(v&s)+40", v, 0, 2, 40);
      due.gives(0, "!!s+40", v, 0, 0, 41);
    }
    due.gives(0, "!s+40", 0, 0, 0, 41);
    due.gives(0, "(s|v)+40", 0, 0, 0, 40);
    due.gives(0, "(s&v)+40", 0, 0, 0, 40);
    due.gives(0, "(1&2)+40", 0, 0, 0, 41);
  }

  /** One below, as much, one above; far apart, so that no difference would tell it. */
  private static void comparing() {
    int[][] rows = {{6, 7, 1, 0, 0}, {7, 7, 0, 1, 0}, {8, 7, 0, 0, 1}, {-1, 0, 1, 0, 0},
        {0, -1, 0, 0, 1}, {Integer.MIN_VALUE, Integer.MAX_VALUE, 1, 0, 0},
        {Integer.MAX_VALUE, Integer.MIN_VALUE, 0, 0, 1}};
    for (int[] row : rows) {
      due.gives(0, "(s<v)+40", row[0], row[1], 0, 40 + row[2]);
      due.gives(0, "(s=v)+40", row[0], row[1], 0, 40 + row[3]);
      due.gives(0, "(s>v)+40", row[0], row[1], 0, 40 + row[4]);
    }
  }

  /** v is a tenth of VIEW, cut. */
  private static void tenthsOfView() {
    int[][] rows = {{0, 0}, {9, 0}, {10, 1}, {19, 1}, {20, 2}, {89, 8}, {90, 9}, {99, 9}};
    for (int[] row : rows) {
      LoanedRound x = Scenes.of(60);
      Scenes.read(x, 0, "v");
      x.set(0, row[0]);
      due.equal("v of VIEW " + row[0], x.homeIs(0, 5), row[1]);
    }
  }

  /** s of BEHIND is a tenth of SHARP, cut. */
  private static void tenthsOfSharp() {
    int[][] rows = {{0, 0}, {9, 0}, {10, 1}, {19, 1}, {20, 2}, {89, 8}, {90, 9}, {99, 9}};
    for (int[] row : rows) {
      LoanedRound x = Scenes.of(60);
      Scenes.read(x, 1, "s");
      x.set(1, row[0]);
      due.equal("s of SHARP " + row[0], x.homeIs(0, 6), row[1]);
    }
  }

  /** d is the rest of DAY by 8, in both USES. */
  private static void daysByEight() {
    int[][] rows = {{0, 0}, {7, 7}, {8, 0}, {9, 1}, {9991, 7}, {9992, 0}, {9999, 7}};
    for (int[] row : rows) {
      LoanedRound x = Scenes.of(60);
      Scenes.read(x, 0, "d");
      Scenes.read(x, 1, "d");
      x.day(row[0]);
      due.equal("d of DAY " + row[0], x.homeIs(0, 5), row[1]);
      due.equal("d of DAY " + row[0], x.homeIs(0, 6), row[1]);
    }
  }
}
