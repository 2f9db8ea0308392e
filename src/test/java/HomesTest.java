/** Promises 1 to 9: a new object, homes, the set. */
public final class HomesTest {
  private static final Due due = new Due();

  public static void main(String[] args) {
    newObject();
    home();
    homeIs();
    homeIsOfManyKinds();
    become();
    as();
    past();
    goes();
    set();
    hears();
    due.end();
  }

  private static void newObject() {
    LoanedRound x = new LoanedRound();
    int[] counts = {0, 0, 0, 0, 99, 7, 0, 0, 0, 0, 0, 1};
    for (int what = 0; what < counts.length; what++) {
      due.equal("new: count(" + what + ")", x.count(what), counts[what]);
    }
    for (int k = 1; k <= 6; k++) {
      due.equal("new: told(" + k + ")", x.told(k), 0);
    }
    due.equal("new: untell(0)", x.untell(0), 0);
    due.equal("new: untell(1)", x.untell(1), 0);
    for (int sheet = 0; sheet < 4; sheet++) {
      due.equal("new: judge(" + sheet + ")", x.judge(sheet), -1000000002);
    }
    due.equal("new: restore()", x.restore(), -1000000002);
    due.equal("new: image()", x.image(), 1);
    due.equal("new: home(0)", x.home(0), 0);
  }

  private static void home() {
    LoanedRound x = new LoanedRound();
    for (int i = 0; i < 8; i++) {
      due.equal("home " + i, x.home(69 - i), i);
      due.equal("homes", x.count(0), i + 1);
      due.equal("KIND of home " + i, x.homeIs(i, 0), 6);
      due.equal("m of home " + i, x.homeIs(i, 1), 9 - i);
    }
    due.equal("THE SET stays", x.count(2), 0);
    due.refused("home(-1)", Due.BEYOND, Scenes::busy, y -> y.home(-1));
    due.refused("home(70)", Due.BEYOND, Scenes::busy, y -> y.home(70));
    due.refused("home(min)", Due.BEYOND, Scenes::busy, y -> y.home(Integer.MIN_VALUE));
    due.refused("the ninth home", Due.FULL, HomesTest::eight, y -> y.home(0));
    due.refused("the ninth home, beyond", Due.BEYOND, HomesTest::eight, y -> y.home(70));
  }

  private static LoanedRound eight() {
    LoanedRound x = Scenes.busy();
    x.home(0);
    return x;
  }

  /** DAY 0, VIEW 40, SHARP 99, seven HOMES: worked out by hand. */
  private static void homeIs() {
    int[][] rows = {
      {0, 4, 0, 0, 0, 40, 44, 3},
      {1, 3, 0, 0, 0, 50, 36, 4},
      {2, 5, 0, 0, 0, 40, 52, 3},
      {3, 0, 0, 0, 0, 40, 77, 5},
      {4, 7, 0, 0, 0, 43, 41, 4},
      {5, 8, 0, 0, 0, 80, 64, 6},
      {6, 5, 0, 0, 0, 0, 0, 3},
    };
    LoanedRound x = Scenes.ofAllKinds();
    x.set(0, 40);
    for (int home = 0; home < rows.length; home++) {
      for (int what = 0; what < 8; what++) {
        due.equal("homeIs(" + home + ", " + what + ")", x.homeIs(home, what), rows[home][what]);
      }
    }
    due.refused("homeIs(-1, 0)", Due.BEYOND, Scenes::busy, y -> y.homeIs(-1, 0));
    due.refused("homeIs(7, 0)", Due.BEYOND, Scenes::busy, y -> y.homeIs(7, 0));
    due.refused("homeIs(0, -1)", Due.BEYOND, Scenes::busy, y -> y.homeIs(0, -1));
    due.refused("homeIs(0, 8)", Due.BEYOND, Scenes::busy, y -> y.homeIs(0, 8));
    due.refused("homeIs without HOMES", Due.BEYOND, LoanedRound::new, y -> y.homeIs(0, 0));
  }

  /** What hangs on SHARP, on DAY, on 50, on m above 4, and where it is held. */
  private static void homeIsOfManyKinds() {
    LoanedRound x = Scenes.ofAllKinds();
    x.set(0, 50);
    x.set(1, 33);
    due.equal("POCOCK at 50", x.homeIs(3, 5), 50);
    due.equal("FRIENDS, blunt", x.homeIs(2, 5), 17);
    due.equal("FELLOW, blunt", x.homeIs(5, 5), 34);
    due.equal("FELLOW leaves", x.homeIs(5, 6), 68);
    x.set(0, 51);
    due.equal("POCOCK at 51", x.homeIs(3, 5), 77);
    x.day(1);
    due.equal("POCOCK leaves on an odd DAY", x.homeIs(3, 6), 51);
    x.set(0, 99);
    x.set(1, 98);
    due.equal("FRIENDS: 99 times 99, by 100", x.homeIs(2, 5), 98);
    x.set(0, 10);
    x.set(1, 70);
    due.equal("FELLOW leaves, a tenth of 70", x.homeIs(5, 6), 10 + 8 + 7 + 7);
    x.set(1, 79);
    due.equal("FELLOW leaves, a tenth of 79", x.homeIs(5, 6), 10 + 8 + 7 + 7);
    x.set(0, 99);
    x.set(1, 99);
    due.equal("AUNT is held", x.homeIs(1, 5), 99);
    due.equal("FELLOW is held", x.homeIs(5, 5), 99);
    due.equal("HOST's rest", x.homeIs(0, 6), 3);
    x.become(4, 49);
    due.equal("BOY: 99 less 54 and 45", x.homeIs(4, 6), 0);
    due.equal("BOY blunts", x.homeIs(4, 7), 5);
    x.become(6, 64);
    due.equal("WAKE with 4", x.homeIs(6, 7), 0);
    x.set(0, 0);
    x.become(4, 49);
    due.equal("BOY says 10 less 9", x.homeIs(4, 5), 1);
    x.past(5, 1);
    x.goes(5);
    x.days(1);
    due.equal("TURNS", x.homeIs(5, 3), 1);
    due.equal("PAST", x.homeIs(5, 4), 1);
  }

  private static void become() {
    LoanedRound x = Scenes.ofAllKinds();
    x.hears(1, 55);
    x.past(1, 1);
    due.equal("become(1, 49)", x.become(1, 49), 1);
    due.equal("become(1, 0)", x.become(1, 0), 4);
    due.equal("become(1, 69)", x.become(1, 69), 0);
    int[] rows = {6, 9, 55, 0, 1};
    for (int what = 0; what < rows.length; what++) {
      due.equal("become: homeIs(1, " + what + ")", x.homeIs(1, what), rows[what]);
    }
    due.equal("become: HOMES", x.count(0), 7);
    due.refused("become(7, 0)", Due.BEYOND, Scenes::busy, y -> y.become(7, 0));
    due.refused("become(-1, 0)", Due.BEYOND, Scenes::busy, y -> y.become(-1, 0));
    due.refused("become(0, 70)", Due.BEYOND, Scenes::busy, y -> y.become(0, 70));
    due.refused("become(0, -1)", Due.BEYOND, Scenes::busy, y -> y.become(0, -1));
  }

  private static void as() {
    LoanedRound x = Scenes.ofAllKinds();
    int[] ms = {4, 3, 5, 0, 7, 8, 5};
    String[] under = {"0", "01", "02", "03", "014", "025", "06"};
    for (int home = 0; home < 7; home++) {
      for (int kind = 0; kind < 7; kind++) {
        boolean is = under[home].indexOf('0' + kind) >= 0;
        due.equal("as(" + home + ", " + kind + ")", x.as(home, kind), is ? ms[home] : -1000000005);
      }
    }
    due.refused("as(0, 1)", Due.KIND, Scenes::busy, y -> y.as(0, 1));
    due.refused("as(0, 7)", Due.BEYOND, Scenes::busy, y -> y.as(0, 7));
    due.refused("as(0, -1)", Due.BEYOND, Scenes::busy, y -> y.as(0, -1));
    due.refused("as(7, 0)", Due.BEYOND, Scenes::busy, y -> y.as(7, 0));
    due.refused("as(-1, 0)", Due.BEYOND, Scenes::busy, y -> y.as(-1, 0));
  }

  private static void past() {
    LoanedRound x = Scenes.ofAllKinds();
    due.equal("past(6, 1)", x.past(6, 1), 0);
    due.equal("past(6, 1) again", x.past(6, 1), 1);
    due.equal("past(0, 1)", x.past(0, 1), 0);
    due.equal("as a set", x.count(7), 65);
    due.equal("past(6, 0)", x.past(6, 0), 1);
    due.equal("past(6, 0) again", x.past(6, 0), 0);
    due.equal("as a set", x.count(7), 1);
    due.equal("THE SET stays", x.count(2), 0);
    due.refused("past(0, 2)", Due.BEYOND, Scenes::busy, y -> y.past(0, 2));
    due.refused("past(0, -1)", Due.BEYOND, Scenes::busy, y -> y.past(0, -1));
    due.refused("past(7, 1)", Due.BEYOND, Scenes::busy, y -> y.past(7, 1));
    due.refused("past(-1, 1)", Due.BEYOND, Scenes::busy, y -> y.past(-1, 1));
  }

  private static void goes() {
    LoanedRound x = Scenes.ofAllKinds();
    x.past(3, 1);
    due.equal("goes(3)", x.goes(3), 0);
    due.equal("goes(6)", x.goes(6), 3);
    due.equal("AT", x.count(2), 6);
    due.refused("goes(7)", Due.BEYOND, Scenes::busy, y -> y.goes(7));
    due.refused("goes(-1)", Due.BEYOND, Scenes::busy, y -> y.goes(-1));
    due.refused("goes(0) without HOMES", Due.BEYOND, LoanedRound::new, y -> y.goes(0));
  }

  private static void set() {
    LoanedRound x = new LoanedRound();
    due.equal("set(0, 99)", x.set(0, 99), 0);
    due.equal("set(0, 0)", x.set(0, 0), 99);
    due.equal("set(1, 0)", x.set(1, 0), 99);
    due.equal("set(1, 98)", x.set(1, 98), 0);
    due.equal("set(2, 40)", x.set(2, 40), 7);
    due.equal("set(2, 1)", x.set(2, 1), 40);
    due.equal("VIEW", x.count(3), 0);
    due.equal("SHARP", x.count(4), 98);
    due.equal("STEEL", x.count(5), 1);
    int[][] beyond = {{0, -1}, {0, 100}, {1, -1}, {1, 100}, {2, 0}, {2, 41}, {3, 1}, {-1, 1}};
    for (int[] call : beyond) {
      due.refused("set(" + call[0] + ", " + call[1] + ")", Due.BEYOND, Scenes::busy,
          y -> y.set(call[0], call[1]));
    }
  }

  private static void hears() {
    LoanedRound x = Scenes.ofAllKinds();
    due.equal("hears(2, 9999)", x.hears(2, 9999), 0);
    due.equal("hears(2, 0)", x.hears(2, 0), 9999);
    due.equal("hears(6, 12)", x.hears(6, 12), 0);
    due.equal("HEARD", x.homeIs(6, 2), 12);
    due.equal("HEARD of all", x.count(6), 12);
    due.refused("hears(0, 10000)", Due.BEYOND, Scenes::busy, y -> y.hears(0, 10000));
    due.refused("hears(0, -1)", Due.BEYOND, Scenes::busy, y -> y.hears(0, -1));
    due.refused("hears(7, 0)", Due.BEYOND, Scenes::busy, y -> y.hears(7, 0));
    due.refused("hears(-1, 0)", Due.BEYOND, Scenes::busy, y -> y.hears(-1, 0));
  }
}
