import java.util.function.Supplier;

/** Promises 14 to 17 at their bounds: days, days by draws, DAY, z; and how A DAY goes by. */
public final class DaysBoundsTest {
  private static final Due due = new Due();

  public static void main(String[] args) {
    daysBounds();
    daysToTheLast();
    daysStateBehindBeyond();
    looseBounds();
    looseToTheLast();
    looseStateBehindBeyond();
    dayBounds();
    dayLeavesSharp();
    seedOfAnyNumber();
    drawsWrap();
    drawOfOneAndOfEight();
    drawWithoutHomes();
    drawToOneThatIsPast();
    dayWithoutHomes();
    heardAtItsMost();
    turnsAtTheirMost();
    sharpAtItsLeast();
    steelled();
    steelledWithoutHomes();
    nextBehindTheLast();
    nextOfOne();
    nextOfThoseThatArePast();
    allFoundOutAhead();
    due.end();
  }

  /** Promise 14: n is 1 .. 60. */
  private static void daysBounds() {
    due.bounded("days(#)", 1, 60, Scenes::busy, (x, v) -> x.days(v));
    due.bounded("new: days(#)", 1, 60, LoanedRound::new, (x, v) -> x.days(v));
    due.equal("days(1): DAY", Due.behind(LoanedRound::new, x -> x.days(1)).count(1), 1);
    due.equal("days(60): DAY", Due.behind(LoanedRound::new, x -> x.days(60)).count(1), 60);
  }

  /** Promise 14: DAY may become 9999, and not more. */
  private static void daysToTheLast() {
    due.allowed("days(1) at 9998", on(9998), x -> x.days(1));
    due.allowed("days(60) at 9939", on(9939), x -> x.days(60));
    due.equal("at 9939", Due.behind(on(9939), x -> x.days(60)).count(1), 9999);
    due.refused("days(1) at 9999", Due.STATE, on(9999), x -> x.days(1));
    due.refused("days(2) at 9998", Due.STATE, on(9998), x -> x.days(2));
    due.refused("days(60) at 9940", Due.STATE, on(9940), x -> x.days(60));
    due.refused("days(60) at 9999", Due.STATE, Scenes::full, x -> x.days(60));
    due.refused("without HOMES", Due.STATE, () -> onWithoutHomes(9999), x -> x.days(1));
  }

  private static Supplier<LoanedRound> on(int day) {
    return () -> Due.behind(Scenes::busy, x -> x.day(day));
  }

  private static LoanedRound onWithoutHomes(int day) {
    LoanedRound x = new LoanedRound();
    x.day(day);
    return x;
  }

  /** Promise 14: BEYOND is asked ahead of STATE. */
  private static void daysStateBehindBeyond() {
    due.outside("at 9999: days(#)", 1, 60, Due.BEYOND, Scenes::full, (x, v) -> x.days(v));
    due.outside("at 9940: days(#)", 1, 60, Due.BEYOND, on(9940), (x, v) -> x.days(v));
  }

  /** Promise 15: n is 1 .. 30. */
  private static void looseBounds() {
    due.bounded("loose(#)", 1, 30, Scenes::busy, (x, v) -> x.loose(v));
    due.bounded("new: loose(#)", 1, 30, LoanedRound::new, (x, v) -> x.loose(v));
    due.equal("loose(1): DAY", Due.behind(LoanedRound::new, x -> x.loose(1)).count(1), 1);
    due.equal("loose(30): DAY", Due.behind(LoanedRound::new, x -> x.loose(30)).count(1), 30);
  }

  /** Promise 15: DAY may become 9999, and not more; z stays then, too. */
  private static void looseToTheLast() {
    due.allowed("loose(1) at 9998", on(9998), x -> x.loose(1));
    due.allowed("loose(30) at 9969", on(9969), x -> x.loose(30));
    due.equal("at 9969", Due.behind(on(9969), x -> x.loose(30)).count(1), 9999);
    due.refused("loose(1) at 9999", Due.STATE, on(9999), x -> x.loose(1));
    due.refused("loose(2) at 9998", Due.STATE, on(9998), x -> x.loose(2));
    due.refused("loose(30) at 9970", Due.STATE, on(9970), x -> x.loose(30));
    due.refused("loose(30) at 9999", Due.STATE, Scenes::full, x -> x.loose(30));
    due.refused("without HOMES", Due.STATE, () -> onWithoutHomes(9999), x -> x.loose(1));
  }

  /** Promise 15: BEYOND is asked ahead of STATE. */
  private static void looseStateBehindBeyond() {
    due.outside("at 9999: loose(#)", 1, 30, Due.BEYOND, Scenes::full, (x, v) -> x.loose(v));
    due.outside("at 9970: loose(#)", 1, 30, Due.BEYOND, on(9970), (x, v) -> x.loose(v));
  }

  /** Promise 16: DAY is 0 .. 9999. */
  private static void dayBounds() {
    due.bounded("day(#)", 0, 9999, Scenes::busy, (x, v) -> x.day(v));
    due.bounded("at 9999: day(#)", 0, 9999, Scenes::full, (x, v) -> x.day(v));
    LoanedRound x = new LoanedRound();
    due.equal("day(9999)", x.day(9999), 0);
    due.equal("day(0)", x.day(0), 9999);
    due.equal("DAY", x.count(1), 0);
  }

  /** Promise 16: SHARP stays, though DAY is a multiple of STEEL. */
  private static void dayLeavesSharp() {
    LoanedRound x = new LoanedRound();
    x.set(1, 5);
    int[] multiples = {7, 14, 0, 9996};
    for (int v : multiples) {
      x.day(v);
      due.equal("SHARP on DAY " + v, x.count(4), 5);
    }
    x.set(2, 1);
    x.day(9999);
    due.equal("SHARP by STEEL 1", x.count(4), 5);
  }

  /** Promise 17: any number is answered and is no ERROR. */
  private static void seedOfAnyNumber() {
    int[] some = {0, -1, Integer.MIN_VALUE, Integer.MAX_VALUE, -1000000001, -1000000006};
    LoanedRound x = new LoanedRound();
    int before = 1;
    for (int v : some) {
      due.equal("seed(" + v + ")", x.seed(v), before);
      due.equal("count(11)", x.count(11), v);
      before = v;
    }
    for (int k = 1; k <= 6; k++) {
      due.equal("told(" + k + ")", x.told(k), 0);
    }
  }

  /** z wraps as an int; z >>> 8 is never below 0: 48, 12466657, 8388656, 4078049. */
  private static void drawsWrap() {
    draw(0, 12345, 0, 6);
    draw(-1, -1103502900, 1, 0);
    draw(Integer.MIN_VALUE, -2147471303, 0, 3);
    draw(Integer.MAX_VALUE, 1043980748, 1, 3);
  }

  private static void draw(int seed, int z, int ofEight, int ofSeven) {
    LoanedRound x = Scenes.ofEightHosts();
    x.seed(seed);
    x.loose(1);
    due.equal("z behind " + seed, x.count(11), z);
    due.equal("TURNS of " + ofEight + " of eight", x.homeIs(ofEight, 3), 1);
    due.equal("AT, of eight", x.count(2), ofEight + 1);
    LoanedRound seven = Scenes.ofAllKinds();
    seven.seed(seed);
    seven.loose(1);
    due.equal("TURNS of " + ofSeven + " of seven", seven.homeIs(ofSeven, 3), 1);
    due.equal("AT, of seven", seven.count(2), (ofSeven + 1) % 7);
  }

  private static void drawOfOneAndOfEight() {
    LoanedRound one = Scenes.of(0);
    one.loose(1);
    due.equal("a draw for one alone, too", one.count(11), 1103527590);
    one.loose(29);
    due.equal("TURNS of one alone", one.homeIs(0, 3), 30);
    due.equal("AT", one.count(2), 0);
    LoanedRound x = Scenes.ofEightHosts();
    int[] turns = new int[8];
    int z = 1;
    for (int i = 0; i < 30; i++) {
      z = z * 1103515245 + 12345;
      turns[(z >>> 8) % 8]++;
    }
    x.loose(30);
    for (int home = 0; home < 8; home++) {
      due.equal("TURNS of " + home, x.homeIs(home, 3), turns[home]);
    }
  }

  private static void drawWithoutHomes() {
    LoanedRound x = new LoanedRound();
    x.seed(77);
    x.set(0, 99);
    due.equal("loose(30)", x.loose(30), 99);
    due.equal("no draw", x.count(11), 77);
    due.equal("AT", x.count(2), 0);
    due.equal("DAY", x.count(1), 30);
  }

  /** A draw asks nobody whether one is gone PAST. */
  private static void drawToOneThatIsPast() {
    LoanedRound x = Scenes.full();
    x.day(0);
    x.seed(-1);
    x.loose(1);
    due.equal("TURNS of the one drawn", x.homeIs(1, 3), 1);
    due.equal("all others are gone PAST: where it is", x.count(2), 1);
  }

  private static void dayWithoutHomes() {
    LoanedRound x = new LoanedRound();
    x.set(0, 99);
    x.set(1, 1);
    due.equal("days(1)", x.days(1), 99);
    due.equal("SHARP stays", x.count(4), 1);
    due.equal("AT stays", x.count(2), 0);
    due.equal("DAY", x.count(1), 1);
  }

  /** HEARD is 9999 at most, and may be just that. */
  private static void heardAtItsMost() {
    heard(9998, 1, 9999);
    heard(9998, 2, 9999);
    heard(9997, 1, 9998);
    heard(9999, 0, 9999);
    heard(9999, 1, 9999);
    heard(9900, 99, 9999);
    heard(9901, 99, 9999);
    heard(9999, 99, 9999);
    heard(9899, 99, 9998);
    heard(0, 0, 0);
  }

  private static void heard(int heard, int said, int want) {
    LoanedRound x = Scenes.of(0);
    x.hears(0, heard);
    x.set(0, said);
    x.days(1);
    due.equal("HEARD of " + heard + " and " + said, x.homeIs(0, 2), want);
  }

  /** TURNS are 9999 at most; 167 times 60 DAYS are more. */
  private static void turnsAtTheirMost() {
    LoanedRound x = Scenes.of(60);
    for (int i = 0; i < 166; i++) {
      x.days(60);
      x.day(0);
    }
    due.equal("TURNS", x.homeIs(0, 3), 9960);
    x.days(38);
    due.equal("TURNS, one less", x.homeIs(0, 3), 9998);
    x.days(1);
    due.equal("TURNS at their most", x.homeIs(0, 3), 9999);
    x.days(1);
    due.equal("TURNS, one more", x.homeIs(0, 3), 9999);
    x.loose(20);
    due.equal("TURNS by draws", x.homeIs(0, 3), 9999);
  }

  /** SHARP is 0 at least: a HOST BLUNTS 3, a POCOCK 5, a WAKE with 4 nothing. */
  private static void sharpAtItsLeast() {
    int[][] rows = {{0, 4, 1}, {0, 3, 0}, {0, 2, 0}, {0, 0, 0}, {30, 6, 1}, {30, 5, 0},
        {30, 4, 0}, {64, 1, 1}, {64, 0, 0}, {19, 8, 1}, {19, 7, 0}, {19, 6, 0}, {59, 99, 93}};
    for (int[] row : rows) {
      LoanedRound x = Scenes.of(row[0]);
      x.set(1, row[1]);
      x.days(1);
      due.equal("SHARP " + row[1] + " behind " + row[0], x.count(4), row[2]);
    }
  }

  /** SHARP is 99 when DAY has become a multiple of STEEL, and not ahead of it nor behind it. */
  private static void steelled() {
    int[][] rows = {{1, 0, 99}, {1, 5, 99}, {1, 9998, 99}, {2, 0, 47}, {2, 1, 99}, {2, 2, 47},
        {7, 5, 47}, {7, 6, 99}, {7, 7, 47}, {40, 0, 47}, {40, 38, 47}, {40, 39, 99}, {40, 40, 47},
        {40, 9998, 47}, {33, 9998, 99}, {39, 9998, 47}, {40, 9959, 99}};
    for (int[] row : rows) {
      LoanedRound x = Scenes.of(0);
      x.set(1, 50);
      x.set(2, row[0]);
      x.day(row[1]);
      x.days(1);
      due.equal("SHARP by STEEL " + row[0] + " behind DAY " + row[1], x.count(4), row[2]);
    }
  }

  private static void steelledWithoutHomes() {
    LoanedRound x = new LoanedRound();
    x.set(1, 0);
    x.set(2, 40);
    x.days(39);
    due.equal("SHARP on DAY 39", x.count(4), 0);
    x.days(1);
    due.equal("SHARP on DAY 40", x.count(4), 99);
    x.set(1, 0);
    x.loose(30);
    due.equal("SHARP on DAY 70", x.count(4), 0);
    x.loose(10);
    due.equal("SHARP on DAY 80", x.count(4), 99);
  }

  /** Behind the last one comes 0, of two as of eight. */
  private static void nextBehindTheLast() {
    LoanedRound x = Scenes.ofEightHosts();
    for (int home = 0; home < 8; home++) {
      due.equal("AT", x.count(2), home);
      x.days(1);
    }
    due.equal("behind the eighth", x.count(2), 0);
    LoanedRound two = Scenes.of(0, 0);
    two.days(1);
    due.equal("of two", two.count(2), 1);
    two.days(1);
    due.equal("behind the second", two.count(2), 0);
    two.goes(1);
    two.home(0);
    two.days(1);
    due.equal("there is one more now", two.count(2), 2);
  }

  private static void nextOfOne() {
    LoanedRound x = Scenes.of(9);
    x.days(60);
    due.equal("AT", x.count(2), 0);
    x.past(0, 1);
    x.days(60);
    due.equal("AT, gone PAST", x.count(2), 0);
    due.equal("TURNS", x.homeIs(0, 3), 120);
  }

  /** The set that is gone PAST, where THE SET is, and where it is a DAY on. */
  private static void nextOfThoseThatArePast() {
    int[][] rows = {{0, 6, 7}, {128, 6, 0}, {129, 6, 1}, {129, 7, 1}, {1, 7, 1}, {127, 7, 7},
        {127, 0, 7}, {254, 7, 0}, {254, 0, 0}, {255, 0, 0}, {255, 3, 3}, {255, 7, 7}, {247, 3, 3},
        {247, 4, 3}, {247, 2, 3}, {239, 3, 4}, {231, 3, 4}, {231, 4, 3}, {126, 0, 7}, {126, 7, 0}};
    for (int[] row : rows) {
      LoanedRound x = Scenes.ofEightHosts();
      for (int home = 0; home < 8; home++) {
        x.past(home, row[0] >> home & 1);
      }
      x.goes(row[1]);
      x.days(1);
      due.equal("AT, of " + row[0] + " from " + row[1], x.count(2), row[2]);
    }
  }

  /** FRIENDS with VIEW 50, SHARP 99: what is SAID and left goes by what is ahead of the DAY. */
  private static void allFoundOutAhead() {
    LoanedRound x = Scenes.of(20);
    Scenes.read(x, 0, "s+v+d");
    Scenes.read(x, 1, "l+s*2+d");
    x.set(0, 50);
    x.day(6);
    due.equal("BEHIND: 51, 18 and 6", x.days(1), 75);
    due.equal("SAID: 50, 5 and 6", x.homeIs(0, 2), 61);
    due.equal("SHARP: 3 less, then steelled", x.count(4), 99);
  }
}
