import java.util.function.Supplier;

/** Promises 25 to 31 at their bounds: voices, THE TRACE, SHEETS. */
public final class SheetsBoundsTest {
  private static final Due due = new Due();

  public static void main(String[] args) {
    voiceBounds();
    voiceBeyondLeavesTheTrace();
    voiceOfAnyNumber();
    partedByNought();
    partedIsAllThatIsAnswered();
    partedLeavesItsTrace();
    partedBehindBeyond();
    cutTowardNought();
    bodyBounds();
    bodyOfNoTrace();
    longestTrace();
    sheetBounds();
    sheetOfOtherBits();
    sheetBelowNought();
    sheetMissing();
    sheetAnewIsAllNought();
    putBounds();
    putNoneBetweenBeyonds();
    putLowestBits();
    moveOrder();
    moveWhereTheyStand();
    moveOfNone();
    moveOfAll();
    moveAsTheyAllWere();
    moveSumsThatWrap();
    hearAllBounds();
    hearAllUpTo();
    hearAllOfMore();
    judgeBounds();
    judgeFromTheFirstOn();
    judgeAtTheMost();
    due.end();
  }

  /** Promise 25: VOICES are 0 .. 3. */
  private static void voiceBounds() {
    due.bounded("voice(0, #, 7)", 0, 3, Scenes::busy, (x, v) -> x.voice(0, v, 7));
    due.bounded("voice(6, #, 7)", 0, 3, Scenes::full, (x, v) -> x.voice(6, v, 7));
    due.bounded("voice(#, 0, 7) of 8", 0, 7, Scenes::full, (x, v) -> x.voice(v, 0, 7));
    due.bounded("voice(#, 2, 7) of 7", 0, 6, Scenes::busy, (x, v) -> x.voice(v, 2, 7));
    due.bounded("voice(#, 1, 7) of 1", 0, 0, () -> Scenes.of(9), (x, v) -> x.voice(v, 1, 7));
  }

  /** A voice() that answers BEYOND leaves THE TRACE as it was. */
  private static void voiceBeyondLeavesTheTrace() {
    LoanedRound x = Scenes.of(49);
    x.voice(0, 1, 7);
    int[][] beyond = {{1, 0}, {-1, 0}, {0, 4}, {0, -1}, {8, 9}};
    for (int[] call : beyond) {
      due.equal("voice", x.voice(call[0], call[1], 1), -1000000001);
      trace(x, 11, 50, 20, 10);
    }
    due.equal("as long as it was", x.count(10), 4);
  }

  private static void trace(LoanedRound x, int... bodies) {
    due.equal("BODIES", x.count(10), bodies.length);
    for (int i = 0; i < bodies.length; i++) {
      due.equal("BODY " + i, x.body(i), bodies[i]);
    }
    due.equal("behind the last BODY", x.body(bodies.length), -1000000002);
  }

  /** x is any number, and what is answered, too; ints wrap. */
  private static void voiceOfAnyNumber() {
    int most = Integer.MAX_VALUE;
    int least = Integer.MIN_VALUE;
    LoanedRound x = Scenes.of(1, 0, 39, 29, 49, 59, 69, 9);
    answers(x, 0, 0, most, most);
    answers(x, 0, 0, least, least);
    answers(x, 7, 0, most, least + 6);
    answers(x, 1, 0, most, least);
    answers(x, 0, 1, most, -2);
    answers(x, 0, 1, least, 0);
    answers(x, 0, 2, least, -1);
    answers(x, 1, 3, least, least);
    answers(x, 1, 3, most, -most);
    answers(x, 0, 3, least, least);
    answers(x, 2, 2, most, (1073741823 + 2) * 2 - 9);
    answers(x, 2, 2, least, -2147483648 + 4 - 9);
    answers(x, 3, 1, least, -6);
    answers(x, 3, 1, 1073741821, least);
    answers(x, 4, 0, most, (most + 4 - 4) * 3);
    answers(x, 4, 0, least, least);
    answers(x, 4, 2, least, -9 ^ 4);
    answers(x, 5, 1, most, -10);
    answers(x, 6, 0, least, 9);
    answers(x, 6, 1, most, 27);
    answers(x, 0, 0, -1000000001, -1000000001);
    answers(x, 0, 0, -1000000006, -1000000006);
    for (int k = 1; k <= 6; k++) {
      due.equal("told(" + k + ")", x.told(k), 0);
    }
  }

  private static void answers(LoanedRound x, int home, int voice, int with, int want) {
    due.equal("voice(" + home + ", " + voice + ", " + with + ")", x.voice(home, voice, with), want);
  }

  /** PARTED if m - k is 0: k is the number, m may be any of 0 .. 7 then, not one more or less. */
  private static void partedByNought() {
    for (int home = 0; home < 8; home++) {
      for (int m = 0; m < 10; m++) {
        LoanedRound x = Scenes.ofEightHosts();
        x.become(home, m);
        int parts = m == home ? -1000000006 : 100 / (m - home);
        due.equal("m " + m + " AT " + home, x.voice(home, 3, 100), parts);
        due.equal("told(6)", x.told(6), m == home ? 1 : 0);
      }
    }
    due.equal("what is parted may be 0", Scenes.of(1).voice(0, 3, 0), 0);
    due.equal("and less than its parts", Scenes.of(9).voice(0, 3, 8), 0);
  }

  /** What an AUNT or a BOY would add is not worked out then, whatever is parted. */
  private static void partedIsAllThatIsAnswered() {
    int[] some = {0, 1, -1, Integer.MIN_VALUE, Integer.MAX_VALUE};
    int[] kinds = {0, 10, 20, 30, 40, 50, 60};
    for (int km : kinds) {
      for (int with : some) {
        due.refusedButForTheTrace("voice(0, 3, " + with + ") of " + km, Due.PARTED,
            () -> Scenes.of(km), x -> x.voice(0, 3, with));
      }
    }
    due.equal("the last of eight", Scenes.full().voice(7, 3, 7), -1000000006);
  }

  /** THE TRACE is also of a voice() that answers PARTED. */
  private static void partedLeavesItsTrace() {
    LoanedRound x = Scenes.of(10, 41, 2, 53);
    x.voice(0, 3, 7);
    trace(x, 21, 13);
    x.voice(1, 3, 7);
    trace(x, 21, 13);
    x.voice(2, 3, 7);
    trace(x, 13);
    x.voice(3, 3, 7);
    trace(x, 13);
    due.equal("told(6)", x.told(6), 4);
    x.voice(3, 4, 7);
    trace(x, 13);
    x.voice(3, 1, 7);
    trace(x, 60, 30, 11, 10);
    x.become(0, 11);
    due.equal("not PARTED any more: 7 + (1 - 4) * 2", x.voice(0, 3, 7), 1);
    trace(x, 21, 13, 11, 20, 10);
  }

  /** Promise 25: BEYOND is asked ahead of PARTED. */
  private static void partedBehindBeyond() {
    due.outside("voice(#, 3, 7)", 0, 0, Due.BEYOND, () -> Scenes.of(0),
        (x, v) -> x.voice(v, 3, 7));
    due.outside("voice(7, #, 7)", 0, 3, Due.BEYOND, Scenes::full, (x, v) -> x.voice(7, v, 7));
  }

  /** x by (m - k), cut; x / 2 of a POCOCK, too. */
  private static void cutTowardNought() {
    LoanedRound x = Scenes.of(3, 0, 0, 30);
    answers(x, 0, 3, 8, 2);
    answers(x, 0, 3, -8, -2);
    answers(x, 0, 3, 2, 0);
    answers(x, 0, 3, -2, 0);
    answers(x, 2, 3, 7, -3);
    answers(x, 2, 3, -7, 3);
    answers(x, 2, 3, 1, 0);
    answers(x, 3, 2, 1, 6);
    answers(x, 3, 2, -1, 6);
    answers(x, 3, 2, 2, 8);
    answers(x, 3, 2, -2, 4);
    answers(x, 3, 2, -3, 4);
  }

  /** Promise 26: NONE ahead of the first and behind the last. */
  private static void bodyBounds() {
    due.allowed("body(0)", Scenes::busy, x -> x.body(0));
    due.allowed("body(4)", Scenes::busy, x -> x.body(4));
    due.outside("body(#) of 5", 0, 4, Due.NONE, Scenes::busy, (x, v) -> x.body(v));
    due.outside("body(#) of 6", 0, 5, Due.NONE, Scenes::full, (x, v) -> x.body(v));
    due.refused("body(29)", Due.NONE, Scenes::full, x -> x.body(29));
    due.refused("body(30)", Due.NONE, Scenes::full, x -> x.body(30));
  }

  private static void bodyOfNoTrace() {
    due.outside("new: body(#)", 0, -1, Due.NONE, LoanedRound::new, (x, v) -> x.body(v));
    due.refused("no voice() yet", Due.NONE, Scenes::ofAllKinds, x -> x.body(0));
    LoanedRound x = Scenes.of(60);
    x.voice(0, 1, 7);
    trace(x, 71, 11, 70);
    x.voice(0, 0, 7);
    trace(x, 70);
  }

  /** A BOY who parts begins six. */
  private static void longestTrace() {
    LoanedRound x = Scenes.of(49);
    x.voice(0, 3, 7);
    trace(x, 21, 13, 11, 50, 20, 10);
    x.voice(0, 2, 7);
    trace(x, 51, 12, 11, 50, 20, 10);
  }

  /** Promise 27: SHEETS are 0 .. 3, numbers 0 .. 24. */
  private static void sheetBounds() {
    int[] some = {8, 16, 32};
    for (int bits : some) {
      due.bounded("sheet(#, " + bits + ", 1)", 0, 3, Scenes::busy, (x, v) -> x.sheet(v, bits, 1));
      due.allowed("sheet(0, " + bits + ", 0)", Scenes::full, x -> x.sheet(0, bits, 0));
      due.allowed("sheet(3, " + bits + ", 24)", Scenes::busy, x -> x.sheet(3, bits, 24));
      due.refused("sheet(0, " + bits + ", 25)", Due.BEYOND, Scenes::busy, x -> x.sheet(0, bits, 25));
      due.refused("sheet(3, " + bits + ", most)", Due.BEYOND, Scenes::full,
          x -> x.sheet(3, bits, Integer.MAX_VALUE));
      numbers(bits, 0);
      numbers(bits, 1);
      numbers(bits, 24);
    }
    due.bounded("sheet(#, 0, 1)", 0, 3, Scenes::full, (x, v) -> x.sheet(v, 0, 1));
  }

  /** A SHEET has just n numbers, all 0. */
  private static void numbers(int bits, int n) {
    LoanedRound x = Scenes.ofEightHosts();
    x.hears(0, 5);
    due.equal("sheet(2, " + bits + ", " + n + ")", x.sheet(2, bits, n), 1);
    for (int i = 0; i < n; i++) {
      x.move(2, i, 2, 0, 1);
      due.equal("it is heard", x.hearAll(2), Math.min(n, 8));
      due.equal("number " + i + " is 0", x.homeIs(0, 2), 0);
    }
    due.equal("the last one", x.put(2, n - 1, 1), n == 0 ? -1000000001 : 1);
    due.equal("no more", x.put(2, n, 1), -1000000001);
  }

  /** Bits are 8, 16, 32 or 0, and nothing in between; BEYOND is asked ahead of STATE. */
  private static void sheetOfOtherBits() {
    int[] none = {-1, 1, 7, 9, 15, 17, 24, 31, 33, 64, -8, -16, -32, 256 + 8, Integer.MIN_VALUE,
        Integer.MAX_VALUE};
    for (int bits : none) {
      due.refused("sheet(0, " + bits + ", 1)", Due.BEYOND, Scenes::busy, x -> x.sheet(0, bits, 1));
      due.refused("sheet(0, " + bits + ", -1)", Due.BEYOND, Scenes::full,
          x -> x.sheet(0, bits, -1));
    }
    due.outside("sheet(#, 8, -1)", 0, 3, Due.BEYOND, Scenes::busy, (x, v) -> x.sheet(v, 8, -1));
    due.outside("sheet(#, 0, -1)", 0, 3, Due.BEYOND, Scenes::busy, (x, v) -> x.sheet(v, 0, -1));
    due.outside("sheet(#, 0, 1)", 0, 3, Due.BEYOND, Scenes::full, (x, v) -> x.sheet(v, 0, 1));
  }

  /** Promise 27: STATE if n is below 0, ahead of BEYOND of n. */
  private static void sheetBelowNought() {
    int[] some = {8, 16, 32};
    for (int bits : some) {
      due.refused("sheet(0, " + bits + ", -1)", Due.STATE, Scenes::busy, x -> x.sheet(0, bits, -1));
      due.refused("sheet(3, " + bits + ", -1)", Due.STATE, Scenes::busy, x -> x.sheet(3, bits, -1));
      due.refused("sheet(3, " + bits + ", least)", Due.STATE, Scenes::full,
          x -> x.sheet(3, bits, Integer.MIN_VALUE));
    }
  }

  /** With 0 bits it is missing, and n doesn't matter. */
  private static void sheetMissing() {
    int[] some = {0, 1, 24, 25, -1, Integer.MIN_VALUE, Integer.MAX_VALUE};
    for (int n : some) {
      LoanedRound x = Scenes.full();
      due.equal("sheet(2, 0, " + n + ")", x.sheet(2, 0, n), 1);
      due.equal("missing", x.put(2, 0, 1), -1000000002);
      due.equal("those beside it are not", x.put(1, 0, 1) + x.put(3, 0, 1), 2);
      due.equal("sheet(2, 0, " + n + ") again", x.sheet(2, 0, n), 1);
      due.allowed("sheet(3, 0, " + n + ") of a missing one", Scenes::busy, y -> y.sheet(3, 0, n));
    }
  }

  /** All are 0 in a SHEET laid out anew, where there were others, too. */
  private static void sheetAnewIsAllNought() {
    LoanedRound x = Scenes.ofEightHosts();
    x.sheet(0, 32, 24);
    for (int i = 0; i < 24; i++) {
      x.put(0, i, 7);
    }
    x.sheet(0, 32, 2);
    x.sheet(0, 32, 24);
    allNought(x, "fewer, then as many");
    x.put(0, 23, 7);
    x.sheet(0, 0, 0);
    x.sheet(0, 8, 24);
    allNought(x, "missing, then of other bits");
    x.put(0, 12, 7);
    x.sheet(0, 8, 24);
    allNought(x, "the same again");
  }

  private static void allNought(LoanedRound x, String when) {
    for (int i = 0; i < 24; i += 8) {
      x.move(0, i, 0, 0, 8);
      x.hears(7, 9);
      due.equal(when, x.hearAll(0), 8);
      due.equal(when, x.count(6), 0);
    }
  }

  /** Promise 28. */
  private static void putBounds() {
    due.bounded("put(#, 0, 1)", 0, 3, Scenes::full, (x, v) -> x.put(v, 0, 1));
    due.bounded("put(0, #, 1) of 24", 0, 23, Scenes::full, (x, v) -> x.put(0, v, 1));
    due.bounded("put(3, #, 1) of 24", 0, 23, Scenes::full, (x, v) -> x.put(3, v, 1));
    due.bounded("put(0, #, 1) of 3", 0, 2, Scenes::busy, (x, v) -> x.put(0, v, 1));
    due.outside("put(0, #, 1) of none", 0, -1, Due.BEYOND, SheetsBoundsTest::ofNoNumbers,
        (x, v) -> x.put(0, v, 1));
    due.equal("any number", Scenes.full().put(3, 0, Integer.MIN_VALUE), 1);
    due.equal("any number", Scenes.full().put(3, 0, Integer.MAX_VALUE), 1);
  }

  private static LoanedRound ofNoNumbers() {
    LoanedRound x = Scenes.busy();
    x.sheet(0, 16, 0);
    return x;
  }

  /** Promise 28: no such SHEET, then missing, then no such number. */
  private static void putNoneBetweenBeyonds() {
    due.outside("put(#, -1, 1)", 0, 3, Due.BEYOND, Scenes::busy, (x, v) -> x.put(v, -1, 1));
    due.refused("put(3, 0, 1)", Due.NONE, Scenes::busy, x -> x.put(3, 0, 1));
    due.outside("put(3, #, 1)", 0, 23, Due.NONE, Scenes::busy, (x, v) -> x.put(3, v, 1));
    due.refused("new: put(0, 24, 1)", Due.NONE, LoanedRound::new, x -> x.put(0, 24, 1));
  }

  /** Just the lowest bits; which of them are heard tells that numbers of 8 and 16 have a sign. */
  private static void putLowestBits() {
    int[][] rows = {{8, 0, 0}, {8, 1, 1}, {8, 127, 127}, {8, 128, -1}, {8, 255, -1}, {8, 256, 0},
        {8, 257, 1}, {8, -128, -1}, {8, -129, 127}, {8, -256, 0}, {8, 9999, 15},
        {16, 127, 127}, {16, 128, 128}, {16, 255, 255}, {16, 256, 256}, {16, 9999, 9999},
        {16, 10000, -1}, {16, 32767, -1}, {16, 32768, -1}, {16, 65535, -1}, {16, 65536, 0},
        {16, 65537, 1}, {16, 65536 + 9999, 9999}, {16, -65536, 0}, {16, -65535, 1}, {16, -1, -1},
        {32, 255, 255}, {32, 256, 256}, {32, 9999, 9999}, {32, 10000, -1}, {32, 65536, -1},
        {32, Integer.MAX_VALUE, -1}, {32, Integer.MIN_VALUE, -1}, {32, -1, -1},
        {8, Integer.MIN_VALUE, 0}, {16, Integer.MIN_VALUE, 0}, {8, Integer.MAX_VALUE, -1},
        {16, Integer.MAX_VALUE, -1}};
    for (int[] row : rows) {
      LoanedRound x = Scenes.of(0);
      x.hears(0, 5000);
      x.sheet(1, row[0], 1);
      due.equal("put(1, 0, " + row[1] + ")", x.put(1, 0, row[1]), 1);
      due.equal(row[1] + " of " + row[0] + " bits", x.hearAll(1), row[2] < 0 ? 0 : 1);
      due.equal(row[1] + " of " + row[0] + " bits", x.homeIs(0, 2), row[2] < 0 ? 5000 : row[2]);
    }
  }

  /** Promise 29: BEYOND of SHEETS, NONE, KIND, then BEYOND of places: the first that is due. */
  private static void moveOrder() {
    int[] outside = {-1, 4, Integer.MIN_VALUE, Integer.MAX_VALUE};
    for (int none : outside) {
      moveRefused(Due.BEYOND, none, 0, 0, 0, 1);
      moveRefused(Due.BEYOND, 0, 0, none, 0, 1);
      moveRefused(Due.BEYOND, none, 0, 3, 0, 1);
      moveRefused(Due.BEYOND, 3, 0, none, 0, 1);
      moveRefused(Due.BEYOND, none, -1, none, -1, -1);
    }
    moveRefused(Due.NONE, 3, 0, 0, 0, 1);
    moveRefused(Due.NONE, 0, 0, 3, 0, 1);
    moveRefused(Due.NONE, 3, 0, 3, 0, 0);
    moveRefused(Due.NONE, 3, -1, 0, 0, 99);
    moveRefused(Due.NONE, 0, 0, 3, -1, -1);
    moveRefused(Due.KIND, 0, 0, 1, 0, 1);
    moveRefused(Due.KIND, 1, 0, 0, 0, 0);
    moveRefused(Due.KIND, 1, 0, 2, 0, 1);
    moveRefused(Due.KIND, 2, 0, 0, 0, 1);
    moveRefused(Due.KIND, 0, -1, 2, 0, 1);
    moveRefused(Due.KIND, 0, 0, 2, 99, 1);
    moveRefused(Due.KIND, 2, 0, 1, 0, -1);
    due.bounded("move(#, 0, 2, 0, 24)", 2, 3, SheetsBoundsTest::twoOfThreeSheets,
        (x, v) -> x.move(v, 0, 2, 0, 24));
    due.bounded("move(2, 0, #, 0, 24)", 2, 3, SheetsBoundsTest::twoOfThreeSheets,
        (x, v) -> x.move(2, 0, v, 0, 24));
  }

  /** SHEETS 2 and 3 are of 24 numbers; a SHEET 1 of none takes none of them. */
  private static LoanedRound twoOfThreeSheets() {
    LoanedRound x = Scenes.full();
    x.sheet(1, 32, 0);
    return x;
  }

  private static void moveRefused(int k, int... call) {
    moveRefused(Scenes::busy, k, call);
  }

  private static void moveRefused(Supplier<LoanedRound> scene, int k, int... call) {
    String name = "move(" + call[0] + ", " + call[1] + ", " + call[2] + ", " + call[3] + ", "
        + call[4] + ")";
    due.refused(name, k, scene, y -> y.move(call[0], call[1], call[2], call[3], call[4]));
  }

  /** From SHEET 0 (4 numbers: 1 .. 4) to SHEET 1 (3 numbers): i, j, n below 0, or not there. */
  private static void moveWhereTheyStand() {
    int[][] there = {{0, 0, 3}, {1, 0, 3}, {3, 2, 1}, {0, 2, 1}, {3, 0, 1}, {2, 1, 2}, {4, 3, 0},
        {0, 0, 0}, {4, 0, 0}, {0, 3, 0}};
    for (int[] call : there) {
      LoanedRound x = fourAndThree();
      due.equal("move(0, " + call[0] + ", 1, " + call[1] + ", " + call[2] + ")",
          x.move(0, call[0], 1, call[1], call[2]), call[2]);
      for (int i = 0; i < 3; i++) {
        boolean came = i >= call[1] && i < call[1] + call[2];
        number(x, 1, i, came ? call[0] + i - call[1] + 1 : 0);
      }
    }
    int[][] beyond = {{0, 0, 4}, {0, 1, 3}, {2, 0, 3}, {3, 1, 2}, {4, 0, 1}, {0, 3, 1}, {-1, 0, 1},
        {0, -1, 1}, {0, 0, -1}, {5, 0, 0}, {0, 4, 0}, {-1, 0, 0}, {0, -1, 0}, {4, 3, 1}};
    for (int[] call : beyond) {
      moveRefused(SheetsBoundsTest::fourAndThree, Due.BEYOND, 0, call[0], 1, call[1], call[2]);
    }
  }

  private static LoanedRound fourAndThree() {
    LoanedRound x = Scenes.ofAllKinds();
    x.sheet(0, 16, 4);
    x.sheet(1, 16, 3);
    for (int i = 0; i < 4; i++) {
      x.put(0, i, i + 1);
    }
    return x;
  }

  /** Number i of a SHEET, by HEARD of home i. */
  private static void number(LoanedRound x, int sheet, int i, int want) {
    x.hearAll(sheet);
    due.equal("number " + i + " of " + sheet, x.homeIs(i, 2), want);
  }

  /** None may be moved from and to just behind the last one, also where there are none at all. */
  private static void moveOfNone() {
    LoanedRound x = Scenes.full();
    due.equal("at the begin", x.move(2, 0, 3, 0, 0), 0);
    due.equal("behind the last", x.move(2, 24, 3, 24, 0), 0);
    number(x, 3, 0, 103);
    due.refused("further", Due.BEYOND, Scenes::full, y -> y.move(2, 25, 3, 0, 0));
    due.refused("further", Due.BEYOND, Scenes::full, y -> y.move(2, 0, 3, 25, 0));
    due.equal("of no numbers", ofNoNumbers().move(0, 0, 0, 0, 0), 0);
    due.refused("one of no numbers", Due.BEYOND, SheetsBoundsTest::ofNoNumbers,
        y -> y.move(0, 0, 0, 0, 1));
    due.refused("none from 1 on of no numbers", Due.BEYOND, SheetsBoundsTest::ofNoNumbers,
        y -> y.move(0, 1, 0, 0, 0));
  }

  private static void moveOfAll() {
    LoanedRound x = Scenes.full();
    due.equal("all 24", x.move(2, 0, 3, 0, 24), 24);
    number(x, 3, 0, 102);
    number(x, 3, 7, 112);
    x.move(3, 23, 3, 0, 1);
    number(x, 3, 0, 122);
    due.equal("onto themselves", x.move(2, 0, 2, 0, 24), 24);
    number(x, 2, 7, 112);
    due.refused("25", Due.BEYOND, Scenes::full, y -> y.move(2, 0, 3, 0, 25));
    due.refused("24 from 1 on", Due.BEYOND, Scenes::full, y -> y.move(2, 1, 3, 0, 24));
    due.refused("24 to 1 on", Due.BEYOND, Scenes::full, y -> y.move(2, 0, 3, 1, 24));
  }

  /** In one SHEET they come as they all were, upward as downward, by one place and by more. */
  private static void moveAsTheyAllWere() {
    int[][] rows = {{0, 1, 7}, {1, 0, 7}, {0, 3, 5}, {3, 0, 5}, {0, 7, 1}, {7, 0, 1}, {2, 4, 4},
        {4, 2, 4}, {0, 0, 8}, {5, 5, 3}};
    for (int[] row : rows) {
      LoanedRound x = Scenes.ofEightHosts();
      x.sheet(0, 8, 8);
      int[] numbers = new int[8];
      for (int i = 0; i < 8; i++) {
        x.put(0, i, i + 11);
        numbers[i] = i + 11;
      }
      int[] were = numbers.clone();
      for (int i = 0; i < row[2]; i++) {
        numbers[row[1] + i] = were[row[0] + i];
      }
      x.move(0, row[0], 0, row[1], row[2]);
      for (int i = 0; i < 8; i++) {
        number(x, 0, i, numbers[i]);
      }
    }
  }

  /** i and n, j and n: sums that wrap are no places. */
  private static void moveSumsThatWrap() {
    int most = Integer.MAX_VALUE;
    int least = Integer.MIN_VALUE;
    int[][] beyond = {{most, 0, 1}, {0, most, 1}, {0, 0, most}, {1, 0, most}, {0, 1, most},
        {most, most, most}, {least, 0, 1}, {0, least, 1}, {0, 0, least}, {least, least, least},
        {most, 0, 0}, {0, most, 0}, {least, 0, least}, {2, 2, most - 1}};
    for (int[] call : beyond) {
      moveRefused(Scenes::full, Due.BEYOND, 2, call[0], 3, call[1], call[2]);
      moveRefused(Scenes::full, Due.BEYOND, 0, call[0], 0, call[1], call[2]);
    }
  }

  /** Promise 30. */
  private static void hearAllBounds() {
    due.bounded("hearAll(#)", 0, 3, Scenes::full, (x, v) -> x.hearAll(v));
    due.outside("new: hearAll(#)", 0, 3, Due.BEYOND, LoanedRound::new, (x, v) -> x.hearAll(v));
    due.refused("hearAll(3)", Due.NONE, Scenes::busy, x -> x.hearAll(3));
    due.refused("new: hearAll(0)", Due.NONE, LoanedRound::new, x -> x.hearAll(0));
  }

  /** 0 and 9999 become HEARD; the first that is less or more ends it, and is no ERROR. */
  private static void hearAllUpTo() {
    int[][] rows = {{0, 1}, {1, 1}, {9998, 1}, {9999, 1}, {-1, 0}, {10000, 0},
        {Integer.MIN_VALUE, 0}, {Integer.MAX_VALUE, 0}};
    for (int[] row : rows) {
      for (int place = 0; place < 8; place++) {
        LoanedRound x = Scenes.ofEightHosts();
        x.sheet(0, 32, 8);
        for (int i = 0; i < 8; i++) {
          x.put(0, i, i == place ? row[0] : 20 + i);
          x.hears(i, 40 + i);
        }
        due.equal(row[0] + " at " + place, x.hearAll(0), row[1] == 1 ? 8 : place);
        for (int i = 0; i < 8; i++) {
          boolean became = row[1] == 1 || i < place;
          int want = !became ? 40 + i : i == place ? row[0] : 20 + i;
          due.equal("HEARD of " + i + ", " + row[0] + " at " + place, x.homeIs(i, 2), want);
        }
        due.equal("no ERROR", x.told(1) + x.told(2), 0);
      }
    }
  }

  /** More numbers than HOMES, more HOMES than numbers, none of either. */
  private static void hearAllOfMore() {
    LoanedRound x = Scenes.full();
    due.equal("24 numbers for eight", x.hearAll(3), 8);
    due.equal("the eighth", x.homeIs(7, 2), 113);
    due.equal("three numbers for seven", Scenes.busy().hearAll(0), 3);
    LoanedRound none = new LoanedRound();
    none.sheet(0, 8, 24);
    due.equal("24 numbers for none", none.hearAll(0), 0);
    none.sheet(0, 8, 0);
    due.equal("no numbers for none", none.hearAll(0), 0);
    LoanedRound one = Scenes.of(0);
    one.hears(0, 5);
    one.sheet(0, 8, 0);
    due.equal("no numbers for one", one.hearAll(0), 0);
    due.equal("HEARD stays", one.homeIs(0, 2), 5);
  }

  /** Promise 31. */
  private static void judgeBounds() {
    due.bounded("judge(#)", 0, 3, Scenes::full, (x, v) -> x.judge(v));
    due.outside("new: judge(#)", 0, 3, Due.BEYOND, LoanedRound::new, (x, v) -> x.judge(v));
    due.refused("judge(3)", Due.NONE, Scenes::busy, x -> x.judge(3));
    due.refused("new: judge(0)", Due.NONE, LoanedRound::new, x -> x.judge(0));
  }

  /** One more or one less is not right; a number for which there is no home is not, either. */
  private static void judgeFromTheFirstOn() {
    LoanedRound x = Scenes.ofEightHosts();
    x.days(8);
    x.sheet(0, 8, 24);
    for (int i = 0; i < 8; i++) {
      due.equal("0 is not right", x.judge(0), i);
      x.put(0, i, 2);
      due.equal("2 is not right", x.judge(0), i);
      x.put(0, i, 257);
      due.equal("1 is right", x.judge(0), i + 1);
    }
    x.put(0, 8, 1);
    due.equal("24 numbers for eight", x.judge(0), 8);
    x.put(0, 0, 0);
    due.equal("from the first on", x.judge(0), 0);
    due.equal("no ERROR", x.told(1) + x.told(2), 0);
    LoanedRound none = new LoanedRound();
    none.sheet(0, 8, 24);
    due.equal("24 numbers for none", none.judge(0), 0);
    LoanedRound more = Scenes.ofAllKinds();
    more.sheet(0, 32, 6);
    due.equal("six numbers for seven", more.judge(0), 6);
    more.sheet(0, 32, 0);
    due.equal("no numbers for seven", more.judge(0), 0);
  }

  /** TURNS of 9999 fit in 16 and 32 bits, and not in 8. */
  private static void judgeAtTheMost() {
    LoanedRound x = Scenes.of(60);
    for (int i = 0; i < 167; i++) {
      x.days(60);
      x.day(0);
    }
    int[][] rows = {{8, 9999, 0}, {16, 9999, 1}, {32, 9999, 1}, {32, 65536 + 9999, 0},
        {16, 65536 + 9999, 1}, {16, 9998, 0}, {32, 10000, 0}, {32, 10020, 0}};
    for (int[] row : rows) {
      x.sheet(0, row[0], 1);
      x.put(0, 0, row[1]);
      due.equal("TURNS of " + row[1] + " in " + row[0] + " bits", x.judge(0), row[2]);
    }
  }
}
