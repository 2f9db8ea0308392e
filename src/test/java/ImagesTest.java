/** Promises 32 to 37: images, numbers that wait, what is told. */
public final class ImagesTest {
  private static final Due due = new Due();

  public static void main(String[] args) {
    image();
    restoreTakesAll();
    restoreLeaves();
    tell();
    check();
    count();
    told();
    due.end();
  }

  private static void image() {
    LoanedRound x = new LoanedRound();
    due.refused("restore() without", Due.NONE, LoanedRound::new, LoanedRound::restore);
    due.equal("image()", x.image(), 1);
    x.day(5);
    due.equal("image() in place", x.image(), 2);
    x.day(9);
    due.equal("restore()", x.restore(), 5);
    due.equal("DAY", x.count(1), 5);
    x.day(8);
    due.equal("it stays", x.restore(), 5);
    due.equal("how often is not restored", x.image(), 3);
  }

  private static void restoreTakesAll() {
    due.equal("restore()", changed().restore(), 5);
    due.same("behind restore()", () -> Due.behind(ImagesTest::changed, LoanedRound::restore),
        () -> Due.behind(ImagesTest::kept, LoanedRound::restore));
  }

  private static LoanedRound kept() {
    LoanedRound x = Scenes.busy();
    x.image();
    return x;
  }

  /** All that an IMAGE keeps is another behind it. */
  private static LoanedRound changed() {
    LoanedRound x = kept();
    x.home(69);
    x.become(0, 55);
    x.past(1, 1);
    x.past(2, 0);
    x.hears(3, 77);
    x.goes(4);
    x.set(0, 1);
    x.set(1, 2);
    x.set(2, 3);
    due.equal("the end of a TEXT comes", Scenes.feed(x, "+d-d*3"), 9);
    x.text(1);
    due.equal("another TEXT", Scenes.read(x, 0, "s+7"), 1);
    x.untell(1);
    Scenes.feed(x, "123");
    x.days(7);
    x.loose(5);
    x.seed(9);
    x.check();
    x.tell(5);
    return x;
  }

  private static void restoreLeaves() {
    LoanedRound x = Scenes.busy();
    x.image();
    x.voice(0, 0, 1);
    x.sheet(3, 8, 1);
    x.told(0);
    x.restore();
    due.equal("THE TRACE stays", x.count(10), 1);
    due.equal("SHEETS stay", x.hearAll(3), 1);
    due.equal("what told() tells stays", x.told(1), 1);
  }

  private static void tell() {
    LoanedRound x = new LoanedRound();
    for (int i = 1; i <= 24; i++) {
      due.equal("tell " + i, x.tell(-1000000001), i);
    }
    due.equal("waiting", x.count(9), 24);
    due.equal("the 25th", x.tell(1), -1000000004);
    due.equal("told(4)", x.told(4), 1);
    due.refused("the 25th", Due.FULL, ImagesTest::waiting24, y -> y.tell(0));
  }

  private static LoanedRound waiting24() {
    LoanedRound x = Scenes.busy();
    while (x.count(9) < 24) {
      x.tell(41);
    }
    return x;
  }

  private static void check() {
    LoanedRound x = Scenes.ofAllKinds();
    x.set(0, 40);
    due.equal("check() of none", x.check(), 0);
    int[] said = {40, 50, 40, 40, 43, 80, 0};
    for (int v : said) {
      x.tell(v);
    }
    due.equal("check() of all", x.check(), 0);
    due.equal("none waits", x.count(9), 0);
    for (int v : said) {
      x.tell(v);
    }
    x.tell(0);
    due.equal("no home for it", x.check(), 8);
    x.tell(40);
    x.tell(51);
    x.tell(41);
    due.equal("the first that isn't so", x.check(), 2);
    due.equal("none waits", x.check(), 0);
    x.tell(41);
    due.equal("at place 0", x.check(), 1);
    x.tell(40);
    due.equal("fewer than HOMES", x.check(), 0);
    due.equal("THE SET stays", x.count(2) + x.count(1) + x.count(6), 0);
    LoanedRound none = new LoanedRound();
    none.tell(0);
    due.equal("without HOMES", none.check(), 1);
  }

  private static void count() {
    LoanedRound x = Scenes.busy();
    due.equal("count(0)", x.count(0), 7);
    due.equal("count(1)", x.count(1), 5);
    x.goes(6);
    due.equal("count(2)", x.count(2), 6);
    x.set(0, 23);
    due.equal("count(3)", x.count(3), 23);
    x.set(1, 24);
    due.equal("count(4)", x.count(4), 24);
    x.set(2, 25);
    due.equal("count(5)", x.count(5), 25);
    int together = 0;
    for (int home = 0; home < 7; home++) {
      x.hears(home, 9999 - home);
      together += 9999 - home;
    }
    due.equal("count(6)", x.count(6), together);
    due.equal("count(7)", x.count(7), 4);
    due.equal("count(8)", x.count(8), 3);
    due.equal("count(9)", x.count(9), 2);
    due.equal("count(10)", x.count(10), 5);
    x.seed(-1000000002);
    due.equal("count(11)", x.count(11), -1000000002);
    due.equal("no ERROR", x.told(2), 0);
    due.refused("count(12)", Due.BEYOND, Scenes::busy, y -> y.count(12));
    due.refused("count(-1)", Due.BEYOND, Scenes::busy, y -> y.count(-1));
  }

  private static void told() {
    LoanedRound x = new LoanedRound();
    due.equal("told(7)", x.told(7), -1000000001);
    due.equal("told(0)", x.told(0), -1000000001);
    due.equal("told(-1)", x.told(-1), -1000000001);
    due.equal("they are counted, too", x.told(1), 3);
    x.restore();
    x.sheet(0, 8, -1);
    for (int i = 0; i < 9; i++) {
      x.home(0);
    }
    x.as(0, 1);
    x.voice(0, 3, 1);
    for (int k = 2; k <= 6; k++) {
      due.equal("told(" + k + ")", x.told(k), 1);
    }
    due.equal("asking does not count", x.told(1), 3);
    due.refused("told(7)", Due.BEYOND, Scenes::busy, y -> y.told(7));
  }
}
