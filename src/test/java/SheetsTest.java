/** Promises 25 to 31: voices, THE TRACE, SHEETS. */
public final class SheetsTest {
  private static final Due due = new Due();

  public static void main(String[] args) {
    voices();
    numberAndM();
    wrapping();
    parted();
    voiceErrors();
    body();
    sheet();
    put();
    move();
    moveErrors();
    hearAll();
    judge();
    due.end();
  }

  /** By hand from the BODIES, for x 7; HOMES 0 .. 6 of KINDS 0 .. 6, with m 4, 3, 5, 0, 7, 8, 5. */
  private static void voices() {
    voice(0, 0, 7, 10);
    voice(0, 1, 14, 11, 10);
    voice(0, 2, 10, 12, 11, 10);
    voice(0, 3, 1, 13);
    voice(1, 0, 4, 20, 10);
    voice(1, 1, 8, 11, 20, 10);
    voice(1, 2, 5, 12, 11, 20, 10);
    voice(1, 3, 3 - 4, 21, 13, 11, 20, 10);
    voice(2, 0, 9, 10);
    voice(2, 1, -18, 30, 11, 10);
    voice(2, 2, -23, 12, 30, 11, 10);
    voice(2, 3, 2, 13);
    voice(3, 0, 10, 10);
    voice(3, 1, 20, 11, 10);
    voice(3, 2, 12, 40, 12, 11, 10);
    voice(3, 3, -2, 13);
    voice(4, 0, 21, 50, 20, 10);
    voice(4, 1, 42, 11, 50, 20, 10);
    voice(4, 2, 35 ^ 4, 51, 12, 11, 50, 20, 10);
    voice(4, 3, 2 + 6, 21, 13, 11, 50, 20, 10);
    voice(5, 0, 12, 10);
    voice(5, 1, -26, 60, 30, 11, 10);
    voice(5, 2, -34, 12, 60, 30, 11, 10);
    voice(5, 3, 2, 13);
    voice(6, 0, 9, 70);
    voice(6, 1, 23, 71, 11, 70);
    voice(6, 2, 18, 12, 71, 11, 70);
    voice(6, 3, -7, 13);
  }

  private static void voice(int home, int voice, int want, int... bodies) {
    LoanedRound x = Scenes.ofAllKinds();
    String call = "voice(" + home + ", " + voice + ", 7)";
    due.equal(call, x.voice(home, voice, 7), want);
    due.equal("BODIES of " + call, x.count(10), bodies.length);
    for (int i = 0; i < bodies.length; i++) {
      due.equal("BODY " + i + " of " + call, x.body(i), bodies[i]);
    }
  }

  /** k is the number of the home, whatever KIND it is of. */
  private static void numberAndM() {
    LoanedRound x = new LoanedRound();
    x.home(19);
    x.home(49);
    x.home(0);
    due.equal("AUNT 0 cuts", x.voice(0, 0, 20), 16);
    due.equal("BOY 1 cuts", x.voice(1, 0, 20), 51);
    due.equal("HOST 2 cuts", x.voice(2, 0, 20), 22);
    due.equal("HOST 2 parts", x.voice(2, 3, 21), -10);
    due.equal("BOY 1 steels: 102 - 9, ^ 1", x.voice(1, 2, 20), 92);
    x.become(2, 5);
    due.equal("HOST 2 with 5 parts", x.voice(2, 3, 20), 6);
    due.equal("cut toward 0", x.voice(2, 3, -20), -6);
  }

  private static void wrapping() {
    LoanedRound x = new LoanedRound();
    x.home(0);
    x.home(0);
    x.home(31);
    due.equal("cuts wraps", x.voice(1, 0, Integer.MAX_VALUE), Integer.MIN_VALUE);
    due.equal("says wraps", x.voice(1, 1, Integer.MAX_VALUE), 0);
    due.equal("parts by -1 wraps", x.voice(1, 3, Integer.MIN_VALUE), Integer.MIN_VALUE);
    due.equal("a half, cut", x.voice(2, 2, -3), (-1 + 2) * 2 - 1);
    due.equal("an answer like an ERROR", x.voice(0, 0, -1000000001), -1000000001);
    due.equal("is none", x.told(1), 0);
  }

  private static void parted() {
    LoanedRound x = new LoanedRound();
    x.home(40);
    x.home(11);
    due.equal("parts by 0", x.voice(0, 3, 5), -1000000006);
    due.equal("told(6)", x.told(6), 1);
    due.equal("THE TRACE of it", x.count(10), 2);
    due.equal("its first", x.body(0), 21);
    due.equal("its second", x.body(1), 13);
    due.equal("AUNT parts by 0", x.voice(1, 3, 0), -1000000006);
    due.equal("told(6)", x.told(6), 2);
    due.equal("behind it", x.voice(1, 0, 5), 2);
    x.become(1, 15);
    due.equal("no more", x.voice(1, 3, 8), 2 - 4);
  }

  private static void voiceErrors() {
    due.refused("voice(0, 4, 7)", Due.BEYOND, Scenes::busy, y -> y.voice(0, 4, 7));
    due.refused("voice(0, -1, 7)", Due.BEYOND, Scenes::busy, y -> y.voice(0, -1, 7));
    due.refused("voice(7, 0, 7)", Due.BEYOND, Scenes::busy, y -> y.voice(7, 0, 7));
    due.refused("voice(-1, 0, 7)", Due.BEYOND, Scenes::busy, y -> y.voice(-1, 0, 7));
    due.refused("PARTED again", Due.PARTED, SheetsTest::partedOnce, y -> y.voice(3, 3, 7));
  }

  private static LoanedRound partedOnce() {
    LoanedRound x = Scenes.busy();
    x.become(3, 33);
    x.voice(3, 3, 7);
    return x;
  }

  private static void body() {
    LoanedRound x = Scenes.ofAllKinds();
    due.equal("body(0) at first", x.body(0), -1000000002);
    due.equal("told(2)", x.told(2), 1);
    x.voice(1, 1, 7);
    due.equal("body(2)", x.body(2), 10);
    x.voice(0, 0, 7);
    due.equal("the latest alone", x.body(0), 10);
    due.equal("the latest alone", x.body(1), -1000000002);
    due.refused("body(-1)", Due.NONE, Scenes::busy, y -> y.body(-1));
    due.refused("body(5)", Due.NONE, Scenes::busy, y -> y.body(5));
    due.refused("body(30)", Due.NONE, Scenes::busy, y -> y.body(30));
  }

  private static void sheet() {
    LoanedRound x = Scenes.ofAllKinds();
    due.equal("sheet(0, 8, 24)", x.sheet(0, 8, 24), 1);
    due.equal("sheet(1, 16, 0)", x.sheet(1, 16, 0), 1);
    due.equal("sheet(3, 32, 2)", x.sheet(3, 32, 2), 1);
    due.equal("24 numbers", x.put(0, 23, 1), 1);
    due.equal("no 25th", x.put(0, 24, 1), -1000000001);
    due.equal("no numbers", x.put(1, 0, 1), -1000000001);
    x.put(3, 0, 7);
    due.equal("anew", x.sheet(3, 32, 3), 1);
    due.equal("all 0", x.judge(3), 3);
    due.equal("missing", x.sheet(3, 0, 99), 1);
    due.equal("missing", x.judge(3), -1000000002);
    due.equal("missing, n below 0", x.sheet(0, 0, -9), 1);
    due.equal("missing", x.hearAll(0), -1000000002);
    due.refused("sheet(4, 8, 1)", Due.BEYOND, Scenes::busy, y -> y.sheet(4, 8, 1));
    due.refused("sheet(-1, 8, 1)", Due.BEYOND, Scenes::busy, y -> y.sheet(-1, 8, 1));
    due.refused("sheet(4, 0, 1)", Due.BEYOND, Scenes::busy, y -> y.sheet(4, 0, 1));
    due.refused("sheet(0, 7, 1)", Due.BEYOND, Scenes::busy, y -> y.sheet(0, 7, 1));
    due.refused("sheet(0, 64, 1)", Due.BEYOND, Scenes::busy, y -> y.sheet(0, 64, 1));
    due.refused("sheet(0, -8, 1)", Due.BEYOND, Scenes::busy, y -> y.sheet(0, -8, 1));
    due.refused("sheet(0, 8, 25)", Due.BEYOND, Scenes::busy, y -> y.sheet(0, 8, 25));
    due.refused("sheet(0, 8, -1)", Due.STATE, Scenes::busy, y -> y.sheet(0, 8, -1));
    due.refused("sheet(0, 8, min)", Due.STATE, Scenes::busy,
        y -> y.sheet(0, 8, Integer.MIN_VALUE));
    due.refused("sheet(0, 7, -1)", Due.BEYOND, Scenes::busy, y -> y.sheet(0, 7, -1));
    due.refused("sheet(4, 8, -1)", Due.BEYOND, Scenes::busy, y -> y.sheet(4, 8, -1));
  }

  /** A number of so many bits has its highest as its sign, as Java's numbers have. */
  private static void put() {
    put(8, 300, 44);
    put(8, 127, 127);
    put(8, 128, -1);
    put(8, -1, -1);
    put(8, 256, 0);
    put(16, 300, 300);
    put(16, 65536 + 9999, 9999);
    put(16, -1, -1);
    put(16, 65535, -1);
    put(32, 9999, 9999);
    put(32, 65536 + 9999, -1);
    put(32, -1, -1);
    due.refused("put(4, 0, 1)", Due.BEYOND, Scenes::busy, y -> y.put(4, 0, 1));
    due.refused("put(-1, 0, 1)", Due.BEYOND, Scenes::busy, y -> y.put(-1, 0, 1));
    due.refused("put(3, 0, 1)", Due.NONE, Scenes::busy, y -> y.put(3, 0, 1));
    due.refused("put(3, -1, 1)", Due.NONE, Scenes::busy, y -> y.put(3, -1, 1));
    due.refused("put(2, 2, 1)", Due.BEYOND, Scenes::busy, y -> y.put(2, 2, 1));
    due.refused("put(2, -1, 1)", Due.BEYOND, Scenes::busy, y -> y.put(2, -1, 1));
  }

  /** heard is -1 where the number is none of 0 .. 9999. */
  private static void put(int bits, int v, int heard) {
    LoanedRound x = new LoanedRound();
    x.home(0);
    x.sheet(2, bits, 1);
    due.equal("put(2, 0, " + v + ")", x.put(2, 0, v), 1);
    due.equal(v + " in " + bits + " bits is taken", x.hearAll(2), heard < 0 ? 0 : 1);
    due.equal(v + " in " + bits + " bits", x.homeIs(0, 2), Math.max(0, heard));
  }

  private static void move() {
    LoanedRound x = fiveOnSheet(0);
    x.sheet(1, 32, 3);
    due.equal("move(0, 1, 1, 0, 2)", x.move(0, 1, 1, 0, 2), 2);
    numbers(x, 1, 2, 3, 0);
    due.equal("upward", x.move(0, 0, 0, 1, 4), 4);
    numbers(x, 0, 1, 1, 2, 3, 4);
    x = fiveOnSheet(0);
    due.equal("downward", x.move(0, 1, 0, 0, 4), 4);
    numbers(x, 0, 2, 3, 4, 5, 5);
    due.equal("none", x.move(0, 5, 0, 5, 0), 0);
    due.equal("all", x.move(0, 0, 0, 0, 5), 5);
    numbers(x, 0, 2, 3, 4, 5, 5);
  }

  private static LoanedRound fiveOnSheet(int sheet) {
    LoanedRound x = Scenes.ofAllKinds();
    x.sheet(sheet, 32, 5);
    for (int i = 0; i < 5; i++) {
      x.put(sheet, i, i + 1);
    }
    return x;
  }

  private static void numbers(LoanedRound x, int sheet, int... want) {
    due.equal("hearAll", x.hearAll(sheet), want.length);
    for (int i = 0; i < want.length; i++) {
      due.equal("number " + i + " of " + sheet, x.homeIs(i, 2), want[i]);
    }
  }

  private static void moveErrors() {
    int[][] beyond = {{4, 0, 0, 0, 1}, {-1, 0, 0, 0, 1}, {0, 0, 4, 0, 1}, {3, 0, -1, 0, 1},
        {0, -1, 0, 0, 1}, {0, 0, 0, -1, 1}, {0, 0, 0, 0, -1}, {0, 0, 0, 0, 4}, {0, 1, 0, 0, 3},
        {0, 0, 0, 1, 3}, {0, 4, 0, 0, 0}, {0, 0, 0, 4, 0},
        {0, Integer.MAX_VALUE, 0, 0, Integer.MAX_VALUE}, {0, 1, 0, 0, Integer.MAX_VALUE},
        {0, Integer.MIN_VALUE, 0, 0, Integer.MIN_VALUE}};
    for (int[] call : beyond) {
      moveRefused(Due.BEYOND, call);
    }
    int[][] none = {{3, 0, 0, 0, 1}, {0, 0, 3, 0, 1}, {3, -1, 3, -1, -1}};
    for (int[] call : none) {
      moveRefused(Due.NONE, call);
    }
    int[][] kind = {{0, 0, 1, 0, 1}, {2, 0, 1, 0, 0}, {1, -1, 2, -1, -1}};
    for (int[] call : kind) {
      moveRefused(Due.KIND, call);
    }
  }

  private static void moveRefused(int k, int[] call) {
    String name = "move(" + call[0] + ", " + call[1] + ", " + call[2] + ", " + call[3] + ", "
        + call[4] + ")";
    due.refused(name, k, Scenes::busy, y -> y.move(call[0], call[1], call[2], call[3], call[4]));
  }

  private static void hearAll() {
    LoanedRound x = new LoanedRound();
    x.home(0);
    x.home(0);
    x.home(0);
    x.sheet(0, 32, 5);
    for (int i = 0; i < 5; i++) {
      x.put(0, i, 9999 - i);
    }
    due.equal("as many as HOMES", x.hearAll(0), 3);
    due.equal("the last one", x.homeIs(2, 2), 9997);
    x.put(0, 0, 1);
    x.put(0, 1, 10000);
    x.put(0, 2, 3);
    due.equal("up to 10000", x.hearAll(0), 1);
    due.equal("the first", x.homeIs(0, 2), 1);
    due.equal("that one stays", x.homeIs(1, 2), 9998);
    due.equal("those behind stay", x.homeIs(2, 2), 9997);
    x.put(0, 0, -1);
    due.equal("up to -1", x.hearAll(0), 0);
    x.sheet(0, 8, 1);
    due.equal("of one number", x.hearAll(0), 1);
    due.equal("no ERROR", x.told(1), 0);
    due.refused("hearAll(4)", Due.BEYOND, Scenes::busy, y -> y.hearAll(4));
    due.refused("hearAll(-1)", Due.BEYOND, Scenes::busy, y -> y.hearAll(-1));
    due.refused("hearAll(3)", Due.NONE, Scenes::busy, y -> y.hearAll(3));
  }

  private static void judge() {
    LoanedRound x = Scenes.ofAllKinds();
    x.days(9);
    x.sheet(0, 16, 24);
    due.equal("TURNS are 2, 2, 1, ..", x.judge(0), 0);
    x.put(0, 0, 2);
    x.put(0, 2, 1);
    due.equal("from the first on", x.judge(0), 1);
    x.put(0, 1, 2);
    due.equal("three", x.judge(0), 3);
    for (int i = 3; i < 9; i++) {
      x.put(0, i, 1);
    }
    due.equal("as many as HOMES", x.judge(0), 7);
    x.sheet(0, 16, 0);
    due.equal("of no numbers", x.judge(0), 0);
    due.refused("judge(4)", Due.BEYOND, Scenes::busy, y -> y.judge(4));
    due.refused("judge(-1)", Due.BEYOND, Scenes::busy, y -> y.judge(-1));
    due.refused("judge(3)", Due.NONE, Scenes::busy, y -> y.judge(3));
  }
}
