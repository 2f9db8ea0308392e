/** Promises 14 to 17: days, days by draws, DAY, z. */
public final class DaysTest {
  private static final Due due = new Due();

  public static void main(String[] args) {
    daysWithoutHomes();
    daysOfTwo();
    goingPast();
    mosts();
    daysErrors();
    loose();
    looseErrors();
    day();
    seed();
    due.end();
  }

  private static void daysWithoutHomes() {
    LoanedRound x = new LoanedRound();
    x.set(0, 12);
    x.set(1, 5);
    due.equal("days(6)", x.days(6), 12);
    due.equal("SHARP", x.count(4), 5);
    due.equal("days(1)", x.days(1), 12);
    due.equal("SHARP at STEEL", x.count(4), 99);
    due.equal("DAY", x.count(1), 7);
    due.equal("AT", x.count(2), 0);
  }

  /** HOST with 3, AUNT with 2, VIEW 60, SHARP 10, STEEL 3. */
  private static void daysOfTwo() {
    LoanedRound x = new LoanedRound();
    x.home(3);
    x.home(12);
    x.set(0, 60);
    x.set(1, 10);
    x.set(2, 3);
    due.equal("HOST leaves", x.days(1), 63);
    due.equal("AT", x.count(2), 1);
    due.equal("SHARP", x.count(4), 7);
    due.equal("HEARD", x.homeIs(0, 2), 60);
    due.equal("TURNS", x.homeIs(0, 3), 1);
    due.equal("AUNT leaves", x.days(1), 42);
    due.equal("AT", x.count(2), 0);
    due.equal("SHARP", x.count(4), 3);
    due.equal("HEARD", x.homeIs(1, 2), 73);
    due.equal("days(1)", x.days(1), 45);
    due.equal("SHARP at STEEL", x.count(4), 99);
    due.equal("HEARD", x.homeIs(0, 2), 102);
    due.equal("days(2): AUNT 33, HOST 36", x.days(2), 36);
    due.equal("SHARP", x.count(4), 92);
    due.equal("DAY", x.count(1), 5);
    due.equal("HEARD of all", x.count(6), 60 + 73 + 42 + 55 + 33);
    x.set(1, 2);
    x.set(2, 40);
    x.days(1);
    due.equal("SHARP at 0", x.count(4), 0);
    due.equal("DAY", x.count(1), 6);
  }

  private static void goingPast() {
    LoanedRound x = Scenes.ofAllKinds();
    x.past(1, 1);
    x.past(2, 1);
    x.days(1);
    due.equal("behind those that are gone PAST", x.count(2), 3);
    x.goes(6);
    x.days(1);
    due.equal("behind the last one", x.count(2), 0);
    x.past(0, 1);
    x.goes(6);
    x.days(1);
    due.equal("behind the last one, and PAST", x.count(2), 3);
    for (int home = 0; home < 7; home++) {
      x.past(home, home == 4 ? 0 : 1);
    }
    x.goes(4);
    x.days(2);
    due.equal("all others are PAST", x.count(2), 4);
    x.past(4, 1);
    x.days(2);
    due.equal("all are PAST", x.count(2), 4);
    due.equal("TURNS of it", x.homeIs(4, 3), 4);
    LoanedRound one = new LoanedRound();
    one.home(5);
    due.equal("one alone", one.days(3), 15);
    due.equal("AT", one.count(2), 0);
  }

  private static void mosts() {
    LoanedRound x = new LoanedRound();
    x.home(0);
    x.set(0, 90);
    x.hears(0, 9900);
    x.days(1);
    due.equal("HEARD", x.homeIs(0, 2), 9990);
    x.days(1);
    due.equal("HEARD at its most", x.homeIs(0, 2), 9999);
    x.days(1);
    due.equal("HEARD at its most", x.homeIs(0, 2), 9999);
    due.equal("TURNS", x.homeIs(0, 3), 3);
    for (int i = 0; i < 9999; i += 60) {
      x.day(0);
      x.days(60);
    }
    due.equal("TURNS at its most", x.homeIs(0, 3), 9999);
  }

  private static void daysErrors() {
    due.refused("days(0)", Due.BEYOND, Scenes::busy, y -> y.days(0));
    due.refused("days(-1)", Due.BEYOND, Scenes::busy, y -> y.days(-1));
    due.refused("days(61)", Due.BEYOND, Scenes::busy, y -> y.days(61));
    due.refused("days(2) at 9998", Due.STATE, DaysTest::late, y -> y.days(2));
    due.refused("days(61) at 9998", Due.BEYOND, DaysTest::late, y -> y.days(61));
    LoanedRound x = late();
    x.days(1);
    due.equal("the last DAY", x.count(1), 9999);
    LoanedRound most = new LoanedRound();
    most.day(9939);
    due.equal("days(60)", most.days(60), 0);
    due.equal("the last DAY", most.count(1), 9999);
  }

  private static LoanedRound late() {
    LoanedRound x = Scenes.busy();
    x.day(9998);
    return x;
  }

  /** z from 1: 1103527590, then as ints wrap. */
  private static void loose() {
    LoanedRound x = Scenes.ofAllKinds();
    int z = 1;
    int[] turns = new int[7];
    for (int i = 0; i < 12; i++) {
      z = z * 1103515245 + 12345;
      turns[(z >>> 8) % 7]++;
    }
    x.past(0, 1);
    x.loose(5);
    due.equal("DAY", x.count(1), 5);
    due.equal("loose(7)", x.loose(7), x.count(3));
    due.equal("z", x.count(11), z);
    due.equal("DAY", x.count(1), 12);
    for (int home = 0; home < 7; home++) {
      due.equal("TURNS of " + home, x.homeIs(home, 3), turns[home]);
    }
    LoanedRound first = Scenes.ofAllKinds();
    first.loose(1);
    due.equal("the first z", first.count(11), 1103527590);
    due.equal("AT behind 4310654 % 7", first.count(2), 4310654 % 7 + 1);
    LoanedRound one = new LoanedRound();
    one.home(0);
    one.loose(1);
    due.equal("a draw for one home, too", one.count(11), 1103527590);
    LoanedRound none = new LoanedRound();
    due.equal("loose without HOMES", none.loose(30), 0);
    due.equal("no draw", none.count(11), 1);
    due.equal("DAY", none.count(1), 30);
  }

  private static void looseErrors() {
    due.refused("loose(0)", Due.BEYOND, Scenes::busy, y -> y.loose(0));
    due.refused("loose(-1)", Due.BEYOND, Scenes::busy, y -> y.loose(-1));
    due.refused("loose(31)", Due.BEYOND, Scenes::busy, y -> y.loose(31));
    due.refused("loose(2) at 9998", Due.STATE, DaysTest::late, y -> y.loose(2));
    due.refused("loose(31) at 9998", Due.BEYOND, DaysTest::late, y -> y.loose(31));
    LoanedRound x = late();
    x.loose(1);
    due.equal("the last DAY", x.count(1), 9999);
  }

  private static void day() {
    LoanedRound x = new LoanedRound();
    x.set(1, 5);
    due.equal("day(9999)", x.day(9999), 0);
    due.equal("day(7)", x.day(7), 9999);
    due.equal("SHARP stays", x.count(4), 5);
    due.equal("day(0)", x.day(0), 7);
    due.equal("DAY", x.count(1), 0);
    due.refused("day(10000)", Due.BEYOND, Scenes::busy, y -> y.day(10000));
    due.refused("day(-1)", Due.BEYOND, Scenes::busy, y -> y.day(-1));
  }

  private static void seed() {
    LoanedRound x = new LoanedRound();
    x.home(0);
    x.home(0);
    due.equal("seed(-1000000001)", x.seed(-1000000001), 1);
    due.equal("seed(5)", x.seed(5), -1000000001);
    due.equal("z", x.count(11), 5);
    due.equal("no ERROR", x.told(1), 0);
    x.loose(1);
    due.equal("z", x.count(11), 5 * 1103515245 + 12345);
    x.seed(Integer.MIN_VALUE);
    due.equal("z", x.seed(0), Integer.MIN_VALUE);
  }
}
