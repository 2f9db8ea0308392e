/** Promises 1 to 9 at their bounds, and what HOMES say, leave and blunt at the bounds of Terms. */
public final class HomesBoundsTest {
  private static final Due due = new Due();

  public static void main(String[] args) {
    newIsAsAtFirst();
    newHasNoHomes();
    newIsNoOther();
    homeKm();
    homeMostAreEight();
    homeFullThenBeyond();
    homeAgainIsAsAtFirst();
    homeIsBounds();
    becomeBounds();
    becomeLeavesTheRest();
    asBounds();
    asKindBehindBeyond();
    pastBounds();
    pastOfTheEighth();
    goesBounds();
    goesToOneThatIsPast();
    setBounds();
    hearsBounds();
    saidAtBounds();
    saidOfFriendsIsCut();
    leftAtBounds();
    leftByDay();
    leftByHowManyHomes();
    blunted();
    due.end();
  }

  /** Promise 1: all as at first; no TEXTS. */
  private static void newIsAsAtFirst() {
    int[] counts = {0, 0, 0, 0, 99, 7, 0, 0, 0, 0, 0, 1};
    for (int what = 0; what < counts.length; what++) {
      due.equal("new: count(" + what + ")", new LoanedRound().count(what), counts[what]);
    }
    due.equal("new: THE TAPE is no TEXT", new LoanedRound().text(0), -10);
    due.equal("new: no TEXT of SAID", new LoanedRound().untell(0), 0);
    due.equal("new: no TEXT of BEHIND", new LoanedRound().untell(1), 0);
    due.equal("new: none waits", new LoanedRound().check(), 0);
    due.refused("new: body(0)", Due.NONE, LoanedRound::new, x -> x.body(0));
    due.refused("new: restore()", Due.NONE, LoanedRound::new, x -> x.restore());
    for (int sheet = 0; sheet < 4; sheet++) {
      int missing = sheet;
      due.refused("new: hearAll(" + sheet + ")", Due.NONE, LoanedRound::new,
          x -> x.hearAll(missing));
    }
    for (int k = 1; k <= 6; k++) {
      due.equal("new: told(" + k + ")", new LoanedRound().told(k), 0);
    }
  }

  /** Promise 1: no HOMES, so that there is none with the number 0. */
  private static void newHasNoHomes() {
    due.refused("new: homeIs", Due.BEYOND, LoanedRound::new, x -> x.homeIs(0, 0));
    due.refused("new: become", Due.BEYOND, LoanedRound::new, x -> x.become(0, 0));
    due.refused("new: as", Due.BEYOND, LoanedRound::new, x -> x.as(0, 0));
    due.refused("new: past", Due.BEYOND, LoanedRound::new, x -> x.past(0, 0));
    due.refused("new: goes", Due.BEYOND, LoanedRound::new, x -> x.goes(0));
    due.refused("new: hears", Due.BEYOND, LoanedRound::new, x -> x.hears(0, 0));
    due.refused("new: soonest", Due.BEYOND, LoanedRound::new, x -> x.soonest(0, 0));
    due.refused("new: startFor", Due.BEYOND, LoanedRound::new, x -> x.startFor(0, 0, 0));
    due.refused("new: odds", Due.BEYOND, LoanedRound::new, x -> x.odds(0, 0, 0, 0));
    due.refused("new: voice", Due.BEYOND, LoanedRound::new, x -> x.voice(0, 0, 0));
  }

  private static void newIsNoOther() {
    due.same("beside a full one", () -> {
      LoanedRound x = new LoanedRound();
      Scenes.full();
      return x;
    }, LoanedRound::new);
  }

  /** Promise 2: km is 10 times the KIND, and m: the first and the last m of each KIND. */
  private static void homeKm() {
    for (int kind = 0; kind < 7; kind++) {
      LoanedRound x = Scenes.of(10 * kind, 10 * kind + 9);
      due.equal("KIND of home(" + 10 * kind + ")", x.homeIs(0, 0), kind);
      due.equal("m of home(" + 10 * kind + ")", x.homeIs(0, 1), 0);
      due.equal("KIND of home(" + (10 * kind + 9) + ")", x.homeIs(1, 0), kind);
      due.equal("m of home(" + (10 * kind + 9) + ")", x.homeIs(1, 1), 9);
    }
    due.bounded("home(#)", 0, 69, Scenes::busy, (x, v) -> x.home(v));
    due.bounded("new: home(#)", 0, 69, LoanedRound::new, (x, v) -> x.home(v));
  }

  /** Terms 1: at most 8 HOMES; promise 2: FULL. */
  private static void homeMostAreEight() {
    LoanedRound x = new LoanedRound();
    for (int home = 0; home < 8; home++) {
      due.equal("home " + home, x.home(home), home);
      due.equal("HOMES behind home " + home, x.count(0), home + 1);
    }
    due.equal("the ninth", x.home(0), -1000000004);
    due.equal("again", x.home(69), -1000000004);
    due.equal("HOMES", x.count(0), 8);
    due.equal("there is no ninth", x.homeIs(8, 0), -1000000001);
    due.equal("told(4)", x.told(4), 2);
    due.refused("the ninth", Due.FULL, Scenes::full, y -> y.home(0));
    due.refused("the ninth of the last km", Due.FULL, Scenes::full, y -> y.home(69));
    due.allowed("the eighth", () -> Scenes.of(1, 2, 3, 4, 5, 6, 7), y -> y.home(0));
  }

  /** Promise 2: BEYOND is asked ahead of FULL. */
  private static void homeFullThenBeyond() {
    due.outside("the ninth, home(#)", 0, 69, Due.BEYOND, Scenes::full, (x, v) -> x.home(v));
  }

  /** Terms 1: HEARD, TURNS 0 and not gone PAST at first, also where another one was. */
  private static void homeAgainIsAsAtFirst() {
    LoanedRound x = new LoanedRound();
    x.image();
    for (int home = 0; home < 8; home++) {
      x.home(49);
      x.hears(home, 9000);
      x.past(home, 1);
    }
    x.days(20);
    x.restore();
    due.equal("no HOMES", x.count(0), 0);
    due.equal("none is gone PAST", x.count(7), 0);
    for (int home = 0; home < 8; home++) {
      x.home(9);
      for (int what = 2; what <= 4; what++) {
        due.equal("anew: homeIs(" + home + ", " + what + ")", x.homeIs(home, what), 0);
      }
    }
  }

  /** Promise 3. */
  private static void homeIsBounds() {
    due.bounded("homeIs(#, 0) of 8", 0, 7, Scenes::full, (x, v) -> x.homeIs(v, 0));
    due.bounded("homeIs(#, 7) of 7", 0, 6, Scenes::busy, (x, v) -> x.homeIs(v, 7));
    due.bounded("homeIs(#, 6) of 1", 0, 0, () -> Scenes.of(5), (x, v) -> x.homeIs(v, 6));
    due.bounded("homeIs(0, #)", 0, 7, Scenes::busy, (x, v) -> x.homeIs(0, v));
    due.bounded("homeIs(7, #)", 0, 7, Scenes::full, (x, v) -> x.homeIs(7, v));
    due.equal("PAST of the last", Scenes.full().homeIs(7, 4), 1);
    due.equal("HEARD of the last", Scenes.full().homeIs(7, 2), 9992);
    due.equal("m of the last", Scenes.full().homeIs(7, 1), 7);
  }

  /** Promise 4. */
  private static void becomeBounds() {
    due.bounded("become(#, 0) of 8", 0, 7, Scenes::full, (x, v) -> x.become(v, 0));
    due.bounded("become(#, 69) of 7", 0, 6, Scenes::busy, (x, v) -> x.become(v, 69));
    due.bounded("become(0, #)", 0, 69, Scenes::busy, (x, v) -> x.become(0, v));
    due.bounded("become(7, #)", 0, 69, Scenes::full, (x, v) -> x.become(7, v));
    LoanedRound x = Scenes.of(0);
    for (int kind = 0; kind < 7; kind++) {
      x.become(0, 10 * kind);
      due.equal("first m of " + kind, 10 * x.homeIs(0, 0) + x.homeIs(0, 1), 10 * kind);
      due.equal("it was", x.become(0, 10 * kind + 9), kind);
      due.equal("last m of " + kind, 10 * x.homeIs(0, 0) + x.homeIs(0, 1), 10 * kind + 9);
    }
  }

  private static void becomeLeavesTheRest() {
    LoanedRound x = Scenes.full();
    due.equal("become(7, 69)", x.become(7, 69), 0);
    int[] rows = {6, 9, 9992, 0, 1};
    for (int what = 0; what < rows.length; what++) {
      due.equal("become: homeIs(7, " + what + ")", x.homeIs(7, what), rows[what]);
    }
    due.equal("HOMES", x.count(0), 8);
  }

  /** Promise 5. */
  private static void asBounds() {
    due.bounded("as(#, 0) of 8", 0, 7, Scenes::full, (x, v) -> x.as(v, 0));
    due.bounded("as(#, 0) of 7", 0, 6, Scenes::busy, (x, v) -> x.as(v, 0));
    due.allowed("as(0, 0)", Scenes::busy, x -> x.as(0, 0));
    due.allowed("as(6, 6)", Scenes::busy, x -> x.as(6, 6));
    due.outside("as(0, #)", 0, 6, Due.BEYOND, Scenes::busy, (x, v) -> x.as(0, v));
    due.outside("as(6, #)", 0, 6, Due.BEYOND, Scenes::busy, (x, v) -> x.as(6, v));
    due.equal("the last m", Scenes.of(69).as(0, 6), 9);
    due.equal("the first m", Scenes.of(60).as(0, 0), 0);
  }

  /** Promise 5: BEYOND is asked ahead of KIND; what is above is not under, and not beside. */
  private static void asKindBehindBeyond() {
    due.refused("as(8, 6)", Due.BEYOND, Scenes::full, x -> x.as(8, 6));
    due.refused("as(0, 7)", Due.BEYOND, Scenes::full, x -> x.as(0, 7));
    due.refused("a HOST as an AUNT", Due.KIND, Scenes::busy, x -> x.as(0, 1));
    due.refused("an AUNT as a BOY", Due.KIND, Scenes::busy, x -> x.as(1, 4));
    due.refused("a BOY as FRIENDS", Due.KIND, Scenes::busy, x -> x.as(4, 2));
    due.refused("a FELLOW as an AUNT", Due.KIND, Scenes::busy, x -> x.as(5, 1));
    due.refused("a WAKE as a FELLOW", Due.KIND, Scenes::busy, x -> x.as(6, 5));
    due.equal("a BOY as an AUNT", Scenes.ofAllKinds().as(4, 1), 7);
    due.equal("a BOY as a HOST", Scenes.ofAllKinds().as(4, 0), 7);
    due.equal("a FELLOW as FRIENDS", Scenes.ofAllKinds().as(5, 2), 8);
  }

  /** Promise 6. */
  private static void pastBounds() {
    due.bounded("past(#, 1) of 8", 0, 7, Scenes::full, (x, v) -> x.past(v, 1));
    due.bounded("past(#, 0) of 7", 0, 6, Scenes::busy, (x, v) -> x.past(v, 0));
    due.bounded("past(0, #)", 0, 1, Scenes::busy, (x, v) -> x.past(0, v));
    due.bounded("past(7, #)", 0, 1, Scenes::full, (x, v) -> x.past(7, v));
  }

  private static void pastOfTheEighth() {
    LoanedRound x = Scenes.ofEightHosts();
    due.equal("past(7, 1)", x.past(7, 1), 0);
    due.equal("the eighth alone", x.count(7), 128);
    for (int home = 0; home < 7; home++) {
      due.equal("past(" + home + ", 1)", x.past(home, 1), 0);
    }
    due.equal("all", x.count(7), 255);
    due.equal("past(7, 0)", x.past(7, 0), 1);
    due.equal("all but the eighth", x.count(7), 127);
    due.equal("past(0, 0)", x.past(0, 0), 1);
    due.equal("nor the first", x.count(7), 126);
    due.equal("past(0, 0) again", x.past(0, 0), 0);
    due.equal("as it was", x.count(7), 126);
  }

  /** Promise 7. */
  private static void goesBounds() {
    due.bounded("goes(#) of 8", 0, 7, Scenes::full, (x, v) -> x.goes(v));
    due.bounded("goes(#) of 7", 0, 6, Scenes::busy, (x, v) -> x.goes(v));
    due.bounded("goes(#) of 1", 0, 0, () -> Scenes.of(5), (x, v) -> x.goes(v));
  }

  private static void goesToOneThatIsPast() {
    LoanedRound x = Scenes.full();
    due.equal("goes(0)", x.goes(0), 7);
    due.equal("AT the first", x.count(2), 0);
    due.equal("goes(7)", x.goes(7), 0);
    due.equal("AT the last", x.count(2), 7);
    due.equal("goes(7) again", x.goes(7), 7);
  }

  /** Promise 8: VIEW 0 .. 99, SHARP 0 .. 99, STEEL 1 .. 40. */
  private static void setBounds() {
    due.bounded("set(0, #)", 0, 99, Scenes::busy, (x, v) -> x.set(0, v));
    due.bounded("set(1, #)", 0, 99, Scenes::busy, (x, v) -> x.set(1, v));
    due.bounded("set(2, #)", 1, 40, Scenes::busy, (x, v) -> x.set(2, v));
    due.bounded("set(#, 1)", 0, 2, Scenes::busy, (x, v) -> x.set(v, 1));
    int[][] ends = {{0, 99}, {0, 99}, {1, 40}};
    for (int what = 0; what < 3; what++) {
      LoanedRound x = new LoanedRound();
      x.set(what, ends[what][1]);
      due.equal("most of " + what, x.count(3 + what), ends[what][1]);
      due.equal("it was", x.set(what, ends[what][0]), ends[what][1]);
      due.equal("least of " + what, x.count(3 + what), ends[what][0]);
    }
  }

  /** Promise 9: HEARD 0 .. 9999. */
  private static void hearsBounds() {
    due.bounded("hears(0, #)", 0, 9999, Scenes::busy, (x, v) -> x.hears(0, v));
    due.bounded("hears(7, #)", 0, 9999, Scenes::full, (x, v) -> x.hears(7, v));
    due.bounded("hears(#, 0) of 8", 0, 7, Scenes::full, (x, v) -> x.hears(v, 0));
    due.bounded("hears(#, 1) of 7", 0, 6, Scenes::busy, (x, v) -> x.hears(v, 1));
    LoanedRound x = Scenes.ofEightHosts();
    for (int home = 0; home < 8; home++) {
      due.equal("hears(" + home + ", 9999)", x.hears(home, 9999), 0);
    }
    due.equal("HEARD of all at its most", x.count(6), 8 * 9999);
    due.equal("hears(7, 0)", x.hears(7, 0), 9999);
    due.equal("HEARD of all", x.count(6), 7 * 9999);
  }

  /** TELLS at the bounds of VIEW and m, held within 0 .. 99. */
  private static void saidAtBounds() {
    said(9, 0, 0);
    said(9, 99, 99);
    said(10, 0, 10);
    said(19, 89, 99);
    said(19, 90, 99);
    said(19, 99, 99);
    said(30, 0, 0);
    said(39, 50, 50);
    said(30, 51, 77);
    said(30, 99, 77);
    said(40, 0, 10);
    said(49, 0, 1);
    said(40, 89, 99);
    said(40, 90, 99);
    said(49, 98, 99);
    said(49, 99, 99);
    said(41, 90, 99);
    said(42, 90, 98);
    said(60, 0, 0);
    said(69, 99, 0);
  }

  /** With SHARP 99, as at first. */
  private static void said(int km, int view, int want) {
    said(km, view, 99, want);
  }

  private static void said(int km, int view, int sharp, int want) {
    LoanedRound x = Scenes.of(km);
    x.set(0, view);
    x.set(1, sharp);
    due.equal("SAID AT " + km + " of " + view + ", " + sharp, x.homeIs(0, 5), want);
  }

  /** VIEW times 1 more than SHARP, by 100, is cut; twice that is twice what is cut. */
  private static void saidOfFriendsIsCut() {
    said(20, 0, 99, 0);
    said(20, 99, 99, 99);
    said(20, 99, 98, 98);
    said(20, 99, 0, 0);
    said(20, 49, 1, 0);
    said(20, 50, 1, 1);
    said(20, 99, 1, 1);
    said(50, 49, 1, 0);
    said(50, 50, 1, 2);
    said(50, 99, 0, 0);
    said(50, 49, 99, 98);
    said(50, 50, 99, 99);
    said(50, 99, 99, 99);
    said(50, 0, 99, 0);
  }

  /** LEAVES at the bounds of VIEW, m and SHARP on DAY 0, with one home; the rest by 100. */
  private static void leftAtBounds() {
    left(0, 0, 99, 0, 0);
    left(0, 99, 99, 0, 99);
    left(1, 99, 99, 0, 0);
    left(9, 90, 99, 0, 99);
    left(9, 99, 99, 0, 8);
    left(10, 0, 99, 0, 0);
    left(10, 1, 99, 0, 0);
    left(10, 2, 99, 0, 1);
    left(11, 0, 99, 0, 5);
    left(19, 99, 99, 0, 99);
    left(20, 98, 99, 0, 99);
    left(20, 99, 99, 0, 0);
    left(40, 0, 99, 0, 99);
    left(49, 99, 99, 0, 0);
    left(50, 0, 0, 0, 1);
    left(50, 0, 9, 0, 1);
    left(50, 0, 10, 0, 2);
    left(50, 0, 99, 0, 10);
    left(50, 89, 99, 0, 99);
    left(50, 90, 99, 0, 0);
    left(60, 99, 99, 0, 0);
    left(69, 99, 99, 0, 0);
  }

  private static void left(int km, int view, int sharp, int day, int want) {
    LoanedRound x = Scenes.of(km);
    x.set(0, view);
    x.set(1, sharp);
    x.day(day);
    due.equal("BEHIND AT " + km + " of " + view + ", " + sharp + ", " + day, x.homeIs(0, 6), want);
  }

  /** A POCOCK leaves 77 if DAY is even. */
  private static void leftByDay() {
    left(30, 5, 99, 0, 77);
    left(30, 5, 99, 1, 5);
    left(39, 99, 99, 1, 8);
    left(39, 99, 99, 9998, 77);
    left(39, 90, 99, 9999, 99);
  }

  /** FRIENDS leave one more for each of HOMES, 8 at most. */
  private static void leftByHowManyHomes() {
    LoanedRound x = Scenes.of(29);
    x.set(0, 90);
    for (int homes = 1; homes <= 8; homes++) {
      due.equal("FRIENDS of " + homes, x.homeIs(0, 6), (99 + homes) % 100);
      x.home(0);
    }
    x.set(0, 99);
    due.equal("FRIENDS at their most", x.homeIs(0, 6), 16);
    x.become(0, 59);
    due.equal("a FELLOW at his most", x.homeIs(0, 6), 25);
  }

  /** BLUNTS: half of m is cut; a WAKE's by m above 4. */
  private static void blunted() {
    int[][] rows = {{0, 3}, {9, 3}, {10, 3}, {11, 3}, {12, 4}, {19, 7}, {20, 3}, {29, 3}, {30, 5},
        {39, 5}, {40, 1}, {41, 1}, {42, 2}, {49, 5}, {50, 6}, {59, 6}, {60, 0}, {64, 0}, {65, 3},
        {69, 3}};
    for (int[] row : rows) {
      due.equal("BLUNTS of " + row[0], Scenes.of(row[0]).homeIs(0, 7), row[1]);
    }
  }
}
