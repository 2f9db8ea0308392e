import java.util.function.ToIntFunction;

/** Promises 32 to 37 at their bounds: images, numbers that wait, what is told. */
public final class ImagesBoundsTest {
  private static final Due due = new Due();

  public static void main(String[] args) {
    imageHowOften();
    imageByThe512thCall();
    imageInPlaceOfOneAhead();
    imageOfFullAndOfNew();
    imageOfEachThing();
    imageLeavesTheRest();
    restoreWithout();
    restoreAgain();
    restoreOfNewTapeAndNumbers();
    tellToTheLast();
    tellAnyNumber();
    tellAgain();
    checkOfNone();
    checkOfFewer();
    checkOfMore();
    checkPlaces();
    checkNearlyRight();
    checkGoesByNow();
    countBounds();
    countAtTheMost();
    toldBounds();
    toldOfEach();
    toldByOddNumbers();
    due.end();
  }

  /** Promise 32: how often it was done, from 1 on; a restore() does not bring that back. */
  private static void imageHowOften() {
    LoanedRound x = new LoanedRound();
    for (int i = 1; i <= 100; i++) {
      due.equal("image()", x.image(), i);
      due.equal("restore()", x.restore(), 0);
    }
    due.equal("told(2)", x.told(2), 0);
  }

  /** What an object answers to its 512th call is still promised. */
  private static void imageByThe512thCall() {
    LoanedRound x = new LoanedRound();
    for (int i = 1; i <= 512; i++) {
      due.equal("image()", x.image(), i);
    }
    LoanedRound errors = new LoanedRound();
    for (int i = 1; i < 512; i++) {
      due.equal("home(70)", errors.home(70), -1000000001);
    }
    due.equal("told(1)", errors.told(1), 511);
  }

  private static void imageInPlaceOfOneAhead() {
    LoanedRound x = Scenes.full();
    due.equal("the second one", x.image(), 2);
    x.day(0);
    due.equal("the second one is restored", x.restore(), 9999);
    due.equal("HOMES", x.count(0), 8);
    due.equal("THE TAPE", x.count(8), 60);
    due.equal("numbers that wait", x.count(9), 24);
    due.equal("gone PAST", x.count(7), 255);
  }

  /** From full to new and from new to full: nothing is left over of what was ahead. */
  private static void imageOfFullAndOfNew() {
    due.same("full, back to new", ImagesBoundsTest::newBehindFull,
        () -> Due.behind(LoanedRound::new, x -> x.image()));
    due.same("new, back to full", ImagesBoundsTest::fullBehindNew, ImagesBoundsTest::fullImage);
  }

  private static LoanedRound newBehindFull() {
    LoanedRound x = new LoanedRound();
    x.image();
    for (int home = 0; home < 8; home++) {
      x.home(69 - home);
      x.hears(home, 9999);
      x.past(home, 1);
    }
    x.days(60);
    x.loose(30);
    x.goes(7);
    x.set(0, 99);
    x.set(1, 0);
    x.set(2, 40);
    x.day(9999);
    Scenes.read(x, 0, "99");
    Scenes.read(x, 1, "98");
    Scenes.feed(x, "1".repeat(60));
    for (int i = 0; i < 24; i++) {
      x.tell(0);
    }
    x.restore();
    return x;
  }

  private static LoanedRound fullImage() {
    LoanedRound x = Scenes.full();
    x.image();
    return x;
  }

  private static LoanedRound fullBehindNew() {
    LoanedRound x = fullImage();
    x.untell(0);
    x.untell(1);
    x.text(0);
    x.untell(0);
    x.check();
    for (int home = 0; home < 8; home++) {
      x.become(home, 0);
      x.hears(home, 0);
      x.past(home, 0);
    }
    x.goes(0);
    x.set(0, 0);
    x.set(1, 99);
    x.set(2, 7);
    x.day(0);
    x.seed(1);
    x.restore();
    return x;
  }

  /** Each thing by itself is kept and brought back. */
  private static void imageOfEachThing() {
    keeps("home", x -> x.home(5));
    keeps("become", x -> x.become(3, 69));
    keeps("m", x -> x.become(0, 5));
    keeps("past", x -> x.past(6, 1));
    keeps("no more past", x -> x.past(2, 0));
    keeps("goes", x -> x.goes(x.count(2) == 0 ? 6 : 0));
    keeps("VIEW", x -> x.set(0, x.count(3) == 0 ? 99 : 0));
    keeps("SHARP", x -> x.set(1, 1));
    keeps("STEEL", x -> x.set(2, 40));
    keeps("hears", x -> x.hears(6, 9999));
    keeps("feed", x -> x.feed('+', 1));
    keeps("a FAULT", x -> x.text(0));
    keeps("text", x -> x.text(1));
    keeps("untell", x -> x.untell(0));
    keeps("untell", x -> x.untell(1));
    keeps("days", x -> x.days(1));
    keeps("loose", x -> x.loose(1));
    keeps("day", x -> x.day(9999));
    keeps("seed", x -> x.seed(-1));
    keeps("tell", x -> x.tell(0));
    keeps("check", x -> x.check());
    keeps("hearAll", x -> x.hearAll(0));
  }

  private static void keeps(String call, ToIntFunction<LoanedRound> act) {
    due.same("restored behind " + call, () -> {
      LoanedRound x = Scenes.busy();
      x.image();
      act.applyAsInt(x);
      x.restore();
      return x;
    }, () -> Due.behind(Scenes::busy, x -> x.image()));
    due.same("kept behind " + call, () -> {
      LoanedRound x = Scenes.busy();
      act.applyAsInt(x);
      x.image();
      x.goes(3);
      x.set(0, 3);
      x.restore();
      return x;
    }, () -> {
      LoanedRound x = Scenes.busy();
      act.applyAsInt(x);
      x.image();
      return x;
    });
  }

  /** SHEETS, THE TRACE and what told() tells are as they were ahead of a restore(). */
  private static void imageLeavesTheRest() {
    LoanedRound x = Scenes.full();
    x.image();
    x.sheet(0, 0, 0);
    x.sheet(1, 8, 1);
    x.put(1, 0, 77);
    x.put(2, 0, 78);
    x.voice(0, 0, 7);
    x.home(70);
    x.home(0);
    due.equal("restore()", x.restore(), 9999);
    due.equal("SHEET 0 is missing", x.hearAll(0), -1000000002);
    due.equal("SHEET 1 has one number", x.hearAll(1), 1);
    due.equal("SHEET 1", x.homeIs(0, 2), 77);
    due.equal("SHEET 2", x.hearAll(2), 8);
    due.equal("SHEET 2", x.homeIs(0, 2), 78);
    due.equal("THE TRACE", x.count(10), 1);
    due.equal("THE TRACE", x.body(0), 10);
    due.equal("told(1)", x.told(1), 1);
    due.equal("told(4)", x.told(4), 1);
  }

  /** Promise 33: NONE. */
  private static void restoreWithout() {
    due.refused("restore()", Due.NONE, LoanedRound::new, x -> x.restore());
    due.refused("restore()", Due.NONE, Scenes::ofAllKinds, x -> x.restore());
    due.allowed("restore()", Scenes::busy, x -> x.restore());
    LoanedRound x = new LoanedRound();
    due.equal("NONE", x.restore(), -1000000002);
    due.equal("NONE again", x.restore(), -1000000002);
    due.equal("the first image()", x.image(), 1);
    due.equal("DAY 0", x.restore(), 0);
  }

  /** The IMAGE stays: what comes behind a restore() is no part of it. */
  private static void restoreAgain() {
    LoanedRound x = Scenes.full();
    x.image();
    for (int i = 0; i < 5; i++) {
      x.become(7, i);
      x.hears(0, i);
      x.day(i);
      x.set(0, i);
      x.text(i % 2);
      x.check();
      due.equal("restore()", x.restore(), 9999);
      due.equal("m", x.homeIs(7, 1), 7);
      due.equal("HEARD", x.homeIs(0, 2), 9999);
      due.equal("VIEW", x.count(3), 99);
      due.equal("THE TAPE", x.count(8), 60);
      due.equal("numbers that wait", x.count(9), 24);
    }
  }

  private static void restoreOfNewTapeAndNumbers() {
    LoanedRound x = new LoanedRound();
    x.image();
    Scenes.feed(x, "12");
    x.tell(5);
    x.restore();
    due.equal("THE TAPE is empty", x.count(8), 0);
    due.equal("none waits", x.count(9), 0);
    due.equal("all 60 can come", Scenes.feed(x, "1".repeat(60)), 60);
    for (int i = 1; i <= 24; i++) {
      due.equal("all 24 can wait", x.tell(i), i);
    }
    due.equal("not the 25th", x.tell(0), -1000000004);
  }

  /** Promise 34: FULL if 24 wait. */
  private static void tellToTheLast() {
    due.allowed("the 24th", () -> waiting(23), x -> x.tell(0));
    due.equal("the 24th", waiting(23).tell(0), 24);
    due.refused("the 25th", Due.FULL, () -> waiting(24), x -> x.tell(0));
    due.refused("the 25th", Due.FULL, Scenes::full, x -> x.tell(Integer.MIN_VALUE));
    LoanedRound x = waiting(24);
    for (int i = 1; i <= 3; i++) {
      due.equal("no more", x.tell(0), -1000000004);
      due.equal("count(9)", x.count(9), 24);
      due.equal("told(4)", x.told(4), i);
    }
  }

  private static LoanedRound waiting(int n) {
    LoanedRound x = Scenes.ofEightHosts();
    for (int i = 0; i < n; i++) {
      x.tell(0);
    }
    return x;
  }

  private static void tellAnyNumber() {
    int[] some = {0, -1, Integer.MIN_VALUE, Integer.MAX_VALUE, -1000000004};
    LoanedRound x = new LoanedRound();
    for (int i = 0; i < some.length; i++) {
      due.equal("tell(" + some[i] + ")", x.tell(some[i]), i + 1);
    }
    due.equal("told(4)", x.told(4), 0);
  }

  /** None wait behind a check(), whatever it answers. */
  private static void tellAgain() {
    LoanedRound x = Scenes.full();
    due.equal("check()", x.check(), 9);
    due.equal("none waits", x.count(9), 0);
    for (int i = 1; i <= 24; i++) {
      due.equal("tell", x.tell(0), i);
    }
    due.equal("FULL again", x.tell(0), -1000000004);
  }

  private static void checkOfNone() {
    due.equal("of HOMES", Scenes.ofEightHosts().check(), 0);
    due.equal("without HOMES", new LoanedRound().check(), 0);
    due.equal("again", Due.behind(Scenes::busy, x -> x.check()).check(), 0);
  }

  /** Fewer numbers than HOMES may all be right. */
  private static void checkOfFewer() {
    for (int n = 0; n <= 8; n++) {
      due.equal("of " + n, waiting(n).check(), 0);
    }
  }

  /** The ninth number has no home: its place is 8. */
  private static void checkOfMore() {
    due.equal("of nine", waiting(9).check(), 9);
    due.equal("of 24", waiting(24).check(), 9);
    LoanedRound none = new LoanedRound();
    none.tell(0);
    due.equal("of one, without HOMES", none.check(), 1);
    LoanedRound one = Scenes.of(0);
    one.tell(0);
    one.tell(0);
    due.equal("of two, for one", one.check(), 2);
  }

  /** 1 and the place of the first that isn't so, also if more aren't. */
  private static void checkPlaces() {
    for (int place = 0; place < 8; place++) {
      LoanedRound x = Scenes.ofEightHosts();
      for (int i = 0; i < 8; i++) {
        x.tell(i == place ? 1 : 0);
      }
      due.equal("one at " + place, x.check(), place + 1);
      for (int i = 0; i < 24; i++) {
        x.tell(i < place ? 0 : 1);
      }
      due.equal("all from " + place + " on", x.check(), place + 1);
    }
  }

  /** A number is all of what would be SAID, not its lowest bits, and not what it would be held at. */
  private static void checkNearlyRight() {
    int[] none = {98, 100, -1, 99 + 256, 99 + 65536, 99 - 256, Integer.MIN_VALUE + 99,
        Integer.MAX_VALUE};
    LoanedRound x = Scenes.of(10);
    x.set(0, 99);
    for (int v : none) {
      x.tell(v);
      due.equal("tell(" + v + ")", x.check(), 1);
    }
    x.tell(99);
    due.equal("tell(99)", x.check(), 0);
  }

  private static void checkGoesByNow() {
    LoanedRound x = Scenes.of(0);
    x.tell(0);
    x.set(0, 5);
    due.equal("VIEW became 5", x.check(), 1);
    x.set(0, 0);
    x.tell(0);
    x.home(10);
    x.tell(10);
    due.equal("there is an AUNT now", x.check(), 0);
  }

  /** Promise 36: what is 0 .. 11. */
  private static void countBounds() {
    due.bounded("count(#)", 0, 11, Scenes::busy, (x, v) -> x.count(v));
    due.bounded("full: count(#)", 0, 11, Scenes::full, (x, v) -> x.count(v));
    due.bounded("new: count(#)", 0, 11, LoanedRound::new, (x, v) -> x.count(v));
  }

  private static void countAtTheMost() {
    int[] rows = {8, 9999, 7, 99, 0, 40, 8 * 9999 - 28, 255, 60, 24, 6, Integer.MIN_VALUE};
    LoanedRound x = Scenes.full();
    for (int what = 0; what < rows.length; what++) {
      due.equal("full: count(" + what + ")", x.count(what), rows[what]);
    }
    x.seed(-1000000001);
    due.equal("z is any number", x.count(11), -1000000001);
    due.equal("and no ERROR", x.told(1), 0);
  }

  /** Promise 37: k is 1 .. 6; another is BEYOND, which is counted, too. */
  private static void toldBounds() {
    due.bounded("told(#)", 1, 6, Scenes::busy, (x, v) -> x.told(v));
    due.bounded("full: told(#)", 1, 6, Scenes::full, (x, v) -> x.told(v));
    int[] others = {0, 7, -1, 8, Integer.MIN_VALUE, Integer.MAX_VALUE, -1000000001};
    LoanedRound x = new LoanedRound();
    for (int i = 0; i < others.length; i++) {
      due.equal("told(" + others[i] + ")", x.told(others[i]), -1000000001);
      due.equal("told(1)", x.told(1), i + 1);
      due.equal("told(1) again", x.told(1), i + 1);
    }
  }

  /** Each ERROR is counted by its own k alone, as often as it was answered. */
  private static void toldOfEach() {
    told(1, x -> x.home(70));
    told(1, x -> x.told(0));
    told(1, x -> x.count(12));
    told(2, x -> x.body(99));
    told(2, x -> x.hearAll(3));
    told(3, x -> x.sheet(0, 8, -1));
    told(3, x -> x.day(9999) + x.days(1));
    told(4, ImagesBoundsTest::feedFull);
    told(5, x -> x.as(0, 6));
    told(5, x -> x.move(0, 0, 1, 0, 1));
    told(6, x -> x.become(0, 0) + x.voice(0, 3, 7));
  }

  /** One more than THE TAPE takes. */
  private static int feedFull(LoanedRound x) {
    int room = 60 - x.count(8);
    for (int i = 0; i < room; i++) {
      x.feed('1', 1);
    }
    return x.feed('1', 1);
  }

  private static void told(int k, ToIntFunction<LoanedRound> act) {
    LoanedRound x = Scenes.busy();
    int[] before = new int[7];
    for (int other = 1; other <= 6; other++) {
      before[other] = x.told(other);
    }
    act.applyAsInt(x);
    for (int other = 1; other <= 6; other++) {
      due.equal("told(" + other + ") behind an ERROR " + k, x.told(other),
          before[other] + (other == k ? 1 : 0));
    }
  }

  /** Answers below -1000000000 that are no ERRORS are not counted, nor are those of a FAULT. */
  private static void toldByOddNumbers() {
    due.allowed("seed", () -> Due.behind(Scenes::busy, x -> x.seed(-1000000003)), x -> x.seed(0));
    due.allowed("count", () -> Due.behind(Scenes::busy, x -> x.seed(-1000000003)),
        x -> x.count(11));
    due.allowed("voice", Scenes::busy, x -> x.voice(0, 0, -1000000002));
    due.allowed("a FAULT", Scenes::busy, x -> Scenes.read(x, 0, "+"));
    due.allowed("hearAll", Scenes::busy, x -> x.put(2, 0, -1) + x.hearAll(2));
  }
}
