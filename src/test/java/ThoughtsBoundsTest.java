/** Promises 18 to 24 at their bounds: what would be. */
public final class ThoughtsBoundsTest {
  private static final Due due = new Due();

  public static void main(String[] args) {
    thenBounds();
    thenOnThisDay();
    thenAsDays();
    thenBeyondTheLastDay();
    thenAtTheMost();
    soonestBounds();
    soonestNow();
    soonestBySixty();
    soonestNoneBehindBeyond();
    startForBounds();
    startForOnThisDay();
    startForOfEight();
    startForOfSeveral();
    swapForBounds();
    swapForNone();
    swapForNoneBehindBeyond();
    swapForLess();
    swapForOfEight();
    spareBounds();
    spareNone();
    spareOfEight();
    spareFewestAheadOfLeast();
    spareWhereItIs();
    oddsBounds();
    oddsInLowestTerms();
    oddsOnThisDay();
    oddsByForty();
    fitsBounds();
    fitsOfNoNumbers();
    fitsOfAllNumbers();
    fitsByBits();
    fitsBeyondTheLastDay();
    fitsNoneBehindBeyond();
    due.end();
  }

  /** Promise 18: n is 0 .. 60, what 0 .. 3. */
  private static void thenBounds() {
    for (int what = 0; what < 4; what++) {
      int which = what;
      due.bounded("then(#, " + what + ")", 0, 60, Scenes::busy, (x, v) -> x.then(v, which));
      due.bounded("late: then(#, " + what + ")", 0, 60, Scenes::full, (x, v) -> x.then(v, which));
      due.bounded("new: then(#, " + what + ")", 0, 60, LoanedRound::new,
          (x, v) -> x.then(v, which));
    }
    due.equal("AT which home without HOMES", new LoanedRound().then(60, 2), 0);
    due.bounded("then(0, #)", 0, 3, Scenes::busy, (x, v) -> x.then(0, v));
    due.bounded("then(60, #)", 0, 3, Scenes::full, (x, v) -> x.then(60, v));
  }

  /** 0 DAYS on all is as it is, also on a DAY that is a multiple of STEEL. */
  private static void thenOnThisDay() {
    LoanedRound x = Scenes.full();
    x.set(2, 1);
    int[] rows = {99, 0, 7, 8 * 9999 - 28};
    for (int what = 0; what < 4; what++) {
      due.equal("then(0, " + what + ")", x.then(0, what), rows[what]);
    }
  }

  private static void thenAsDays() {
    int[] some = {1, 59, 60};
    for (int n : some) {
      LoanedRound thought = Scenes.busy();
      LoanedRound gone = Scenes.busy();
      due.equal("then(" + n + ", 0)", thought.then(n, 0), gone.days(n));
      due.equal("then(" + n + ", 1)", thought.then(n, 1), gone.count(4));
      due.equal("then(" + n + ", 2)", thought.then(n, 2), gone.count(2));
      due.equal("then(" + n + ", 3)", thought.then(n, 3), gone.count(6));
    }
  }

  /** DAY is 9999, 10000, 10001 in thought: odd, a multiple of 40, odd; the rest by 8 is 7, 0, 1. */
  private static void thenBeyondTheLastDay() {
    LoanedRound x = Scenes.of(30);
    x.set(0, 5);
    x.set(1, 50);
    x.set(2, 40);
    x.day(9999);
    due.equal("on an odd DAY", x.then(1, 0), 5);
    due.equal("on DAY 10000", x.then(2, 0), 77);
    due.equal("steelled on DAY 10000", x.then(1, 1), 99);
    due.equal("SHARP on DAY 10001", x.then(2, 1), 94);
    Scenes.read(x, 1, "d");
    due.equal("d on DAY 9999", x.then(1, 0), 7);
    due.equal("d on DAY 10000", x.then(2, 0), 0);
    due.equal("d on DAY 10001", x.then(3, 0), 1);
    due.equal("DAY stays", x.count(1), 9999);
  }

  /** HEARD is 9999 at most in thought, too. */
  private static void thenAtTheMost() {
    LoanedRound x = Scenes.ofEightHosts();
    Scenes.read(x, 0, "99");
    for (int home = 0; home < 8; home++) {
      x.hears(home, 9990);
    }
    due.equal("then(1, 3)", x.then(1, 3), 8 * 9990 + 9);
    due.equal("then(7, 3)", x.then(7, 3), 8 * 9990 + 7 * 9);
    due.equal("then(8, 3)", x.then(8, 3), 8 * 9999);
    due.equal("then(60, 3)", x.then(60, 3), 8 * 9999);
    LoanedRound blunt = Scenes.of(0);
    blunt.set(1, 2);
    due.equal("SHARP is 0 at least in thought", blunt.then(1, 1), 0);
  }

  /** Promise 19: v is 0 .. 9999. */
  private static void soonestBounds() {
    due.bounded("soonest(0, #)", 0, 9999, Scenes::full, (x, v) -> x.soonest(0, v));
    due.bounded("soonest(#, 0) of 8", 0, 7, Scenes::full, (x, v) -> x.soonest(v, 0));
    due.bounded("soonest(#, 0) of 7", 0, 6, Scenes::busy, (x, v) -> x.soonest(v, 0));
    due.outside("soonest(#, 9999) of 8", 0, 7, Due.BEYOND, Scenes::full,
        (x, v) -> x.soonest(v, 9999));
  }

  private static void soonestNow() {
    LoanedRound x = saysOne(1);
    x.hears(0, 50);
    due.equal("less than there is", x.soonest(0, 49), 0);
    due.equal("as much as there is", x.soonest(0, 50), 0);
    due.equal("one more than there is", x.soonest(0, 51), 1);
    x.hears(0, 9999);
    due.equal("the most there is", x.soonest(0, 9999), 0);
    x.hears(0, 0);
    due.equal("none", x.soonest(0, 0), 0);
  }

  /** So many HOSTS AT which 1 is SAID each DAY. */
  private static LoanedRound saysOne(int homes) {
    LoanedRound x = new LoanedRound();
    for (int i = 0; i < homes; i++) {
      x.home(0);
    }
    Scenes.read(x, 0, "1");
    return x;
  }

  /** By 60 DAYS, and NONE if it takes 61. */
  private static void soonestBySixty() {
    due.equal("59 of one", saysOne(1).soonest(0, 59), 59);
    due.equal("60 of one", saysOne(1).soonest(0, 60), 60);
    due.refused("61 of one", Due.NONE, () -> saysOne(1), x -> x.soonest(0, 61));
    due.equal("30 of the first of two", saysOne(2).soonest(0, 30), 59);
    due.equal("30 of the second of two", saysOne(2).soonest(1, 30), 60);
    due.refused("31 of the first", Due.NONE, () -> saysOne(2), x -> x.soonest(0, 31));
    due.refused("31 of the second", Due.NONE, () -> saysOne(2), x -> x.soonest(1, 31));
    due.equal("8 of the fourth of eight", saysOne(8).soonest(3, 8), 60);
    due.refused("8 of the fifth of eight", Due.NONE, () -> saysOne(8), x -> x.soonest(4, 8));
    due.equal("9999 of 9939", heardOfOne(9939).soonest(0, 9999), 60);
    due.refused("9999 of 9938", Due.NONE, () -> heardOfOne(9938), x -> x.soonest(0, 9999));
    LoanedRound late = heardOfOne(0);
    late.day(9999);
    due.equal("DAY beyond 9999", late.soonest(0, 60), 60);
    LoanedRound held = heardOfOne(9998);
    Scenes.read(held, 0, "99");
    due.equal("HEARD is held at 9999", held.soonest(0, 9999), 1);
  }

  private static LoanedRound heardOfOne(int heard) {
    LoanedRound x = saysOne(1);
    x.hears(0, heard);
    return x;
  }

  /** Promise 19: BEYOND is asked ahead of NONE. */
  private static void soonestNoneBehindBeyond() {
    due.outside("soonest(0, #)", 0, 9999, Due.BEYOND, () -> saysOne(1), (x, v) -> x.soonest(0, v));
    due.outside("soonest(#, 9999)", 0, 0, Due.BEYOND, () -> saysOne(1),
        (x, v) -> x.soonest(v, 9999));
  }

  /** Promise 20: n is 0 .. 40. */
  private static void startForBounds() {
    for (int what = 0; what < 2; what++) {
      int which = what;
      due.bounded("startFor(0, #, " + what + ")", 0, 40, Scenes::busy,
          (x, v) -> x.startFor(0, v, which));
      due.bounded("late: startFor(7, #, " + what + ")", 0, 40, Scenes::full,
          (x, v) -> x.startFor(7, v, which));
    }
    due.bounded("startFor(#, 0, 0) of 8", 0, 7, Scenes::full, (x, v) -> x.startFor(v, 0, 0));
    due.bounded("startFor(#, 40, 1) of 7", 0, 6, Scenes::busy, (x, v) -> x.startFor(v, 40, 1));
    due.bounded("startFor(0, 40, #)", 0, 1, Scenes::busy, (x, v) -> x.startFor(0, 40, v));
    due.bounded("startFor(7, 0, #)", 0, 1, Scenes::full, (x, v) -> x.startFor(7, 0, v));
  }

  private static void startForOnThisDay() {
    LoanedRound x = Scenes.full();
    for (int home = 0; home < 8; home++) {
      due.equal("n 0, the least", x.startFor(home, 0, 0), 0);
      due.equal("n 0, as much as there is", x.startFor(home, 0, 1), 9999 - home);
    }
    LoanedRound none = Scenes.ofEightHosts();
    due.equal("nothing HEARD, the least", none.startFor(7, 0, 0), 0);
    due.equal("nothing HEARD", none.startFor(7, 0, 1), 0);
    due.equal("nothing HEARD by 40 DAYS, the least", none.startFor(7, 40, 0), 0);
  }

  /** Of eight, 33 DAYS are one more than four rounds, 39 one less than five. */
  private static void startForOfEight() {
    LoanedRound x = saysOne(8);
    for (int home = 0; home < 8; home++) {
      due.equal("n 1", x.startFor(home, 1, 0), home);
      due.equal("n 1", x.startFor(home, 1, 1), 1);
      due.equal("n 8, the least", x.startFor(home, 8, 0), 0);
      due.equal("n 33", x.startFor(home, 33, 0), home);
      due.equal("n 33", x.startFor(home, 33, 1), 5);
      due.equal("n 39, but for one behind it", x.startFor(home, 39, 0), home == 7 ? 1 : 0);
      due.equal("n 40, the least", x.startFor(home, 40, 0), 0);
      due.equal("n 40", x.startFor(home, 40, 1), 5);
    }
    due.equal("THE SET stays", x.count(2), 0);
  }

  /** HEARD of 9999 at most is as much from each start. */
  private static void startForOfSeveral() {
    LoanedRound x = saysOne(8);
    x.hears(5, 9999);
    due.equal("the most already", x.startFor(5, 1, 0), 0);
    due.equal("the most already", x.startFor(5, 1, 1), 9999);
    x.hears(5, 9998);
    due.equal("the most from one", x.startFor(5, 1, 0), 5);
    due.equal("the most from one", x.startFor(5, 1, 1), 9999);
    due.equal("from 4 and from 5", x.startFor(5, 2, 0), 4);
    due.equal("the most from all", x.startFor(5, 40, 0), 0);
    due.equal("the most from all", x.startFor(5, 40, 1), 9999);
    LoanedRound one = saysOne(1);
    due.equal("of one", one.startFor(0, 40, 0), 0);
    due.equal("of one", one.startFor(0, 40, 1), 40);
  }

  /** Promise 21: n is 0 .. 40, what 0 .. 1. */
  private static void swapForBounds() {
    due.bounded("swapFor(1, #)", 0, 1, ThoughtsBoundsTest::wakeBehind, (x, v) -> x.swapFor(1, v));
    due.bounded("swapFor(40, #)", 0, 1, ThoughtsBoundsTest::wakeBehind, (x, v) -> x.swapFor(40, v));
    due.outside("swapFor(#, 0)", 0, 40, Due.BEYOND, ThoughtsBoundsTest::wakeBehind,
        (x, v) -> x.swapFor(v, 0));
    due.outside("swapFor(#, 1)", 0, 40, Due.BEYOND, Scenes::busy, (x, v) -> x.swapFor(v, 1));
    due.equal("swapFor(1, 0)", wakeBehind().swapFor(1, 0), 1);
    due.equal("swapFor(1, 1)", wakeBehind().swapFor(1, 1), 0);
    due.equal("swapFor(40, 0)", wakeBehind().swapFor(40, 0), 1);
    due.equal("swapFor(40, 1)", wakeBehind().swapFor(40, 1), 0);
    LoanedRound late = wakeBehind();
    late.day(9999);
    due.equal("DAY beyond 9999", late.swapFor(40, 0), 1);
  }

  /** A HOST, then a WAKE, VIEW 50: changed about, nothing is ever SAID. */
  private static LoanedRound wakeBehind() {
    LoanedRound x = Scenes.of(0, 60);
    x.set(0, 50);
    return x;
  }

  /** 0 DAYS on, without two HOMES, of HOMES alike, with as much, and with HEARD at its most. */
  private static void swapForNone() {
    for (int what = 0; what < 2; what++) {
      int which = what;
      due.refused("n 0", Due.NONE, ThoughtsBoundsTest::wakeBehind, x -> x.swapFor(0, which));
      due.refused("n 0 of all", Due.NONE, Scenes::full, x -> x.swapFor(0, which));
      due.refused("no HOMES", Due.NONE, LoanedRound::new, x -> x.swapFor(40, which));
      due.refused("one home", Due.NONE, () -> Scenes.of(0), x -> x.swapFor(40, which));
      due.refused("two alike", Due.NONE, () -> Scenes.of(5, 5), x -> x.swapFor(40, which));
      due.refused("eight alike", Due.NONE, Scenes::ofEightHosts, x -> x.swapFor(40, which));
      due.refused("the less comes first", Due.NONE, () -> Scenes.of(0, 1), x -> x.swapFor(2, which));
      due.refused("at the most", Due.NONE, ThoughtsBoundsTest::allHeardMost,
          x -> x.swapFor(40, which));
    }
  }

  private static LoanedRound allHeardMost() {
    LoanedRound x = wakeBehind();
    x.hears(0, 9999);
    x.hears(1, 9999);
    return x;
  }

  /** Promise 21: BEYOND is asked ahead of NONE. */
  private static void swapForNoneBehindBeyond() {
    due.outside("new: swapFor(#, 0)", 0, 40, Due.BEYOND, LoanedRound::new,
        (x, v) -> x.swapFor(v, 0));
    due.outside("new: swapFor(0, #)", 0, 1, Due.BEYOND, LoanedRound::new,
        (x, v) -> x.swapFor(0, v));
    due.outside("swapFor(0, #)", 0, 1, Due.BEYOND, Scenes::full, (x, v) -> x.swapFor(0, v));
  }

  /** Less by one is less; as it is counts as many DAYS on, not now. */
  private static void swapForLess() {
    LoanedRound x = Scenes.of(1, 0);
    x.set(0, 50);
    due.equal("50 and 51 would be 50 and 50", x.swapFor(2, 0), 1);
    due.equal("50 and 50", x.swapFor(2, 1), 100);
    due.equal("one DAY on as much", x.swapFor(1, 0), -1000000002);
    x.hears(0, 9999);
    due.equal("9999 and 51 would be 50 and 9999", x.swapFor(2, 1), 10049);
    x.hears(0, 0);
    x.hears(1, 9999);
    due.equal("50 and 9999 would be 9999 and 50", x.swapFor(2, 0), -1000000002);
  }

  /** The least two are 0 and 1, the greatest 6 and 7. */
  private static void swapForOfEight() {
    swap(0, 254, 1);
    swap(0, 128, 7);
    swap(7, 127, 7);
    swap(7, 64, 67);
    swap(6, 128, 67);
    swap(6, 63, 6);
    swap(3, 128, 37);
    swap(3, 16, 34);
    swap(3, 23, 3);
    swap(4, 8, 34);
  }

  /** THE SET AT one of eight; the set of those that are WAKES, which say 0; VIEW 50, one DAY on. */
  private static void swap(int at, int wakes, int want) {
    LoanedRound x = new LoanedRound();
    for (int home = 0; home < 8; home++) {
      x.home((wakes >> home & 1) == 1 ? 60 : 0);
    }
    x.set(0, 50);
    x.goes(at);
    due.equal("AT " + at + ", WAKES " + wakes, x.swapFor(1, 0), want);
    due.equal("AT " + at + ", WAKES " + wakes, x.swapFor(1, 1), 0);
  }

  /** Promise 22: n is 0 .. 40, v 0 .. 99. */
  private static void spareBounds() {
    due.bounded("spare(#, 99)", 0, 40, Scenes::busy, (x, v) -> x.spare(v, 99));
    due.bounded("late: spare(#, 99)", 0, 40, Scenes::full, (x, v) -> x.spare(v, 99));
    due.bounded("new: spare(#, 0)", 0, 40, LoanedRound::new, (x, v) -> x.spare(v, 0));
    due.bounded("spare(40, #)", 0, 99, Scenes::ofEightHosts, (x, v) -> x.spare(40, v));
    due.bounded("new: spare(0, #)", 0, 99, LoanedRound::new, (x, v) -> x.spare(0, v));
    due.equal("VIEW 99 or less", Scenes.full().spare(0, 99), 0);
    due.equal("VIEW 0", Scenes.ofEightHosts().spare(40, 0), 0);
  }

  /** VIEW is as it is 0 DAYS on, whoever is gone PAST; BEYOND is asked ahead of NONE. */
  private static void spareNone() {
    due.refused("spare(0, 98)", Due.NONE, Scenes::full, x -> x.spare(0, 98));
    due.refused("spare(0, 0)", Due.NONE, Scenes::full, x -> x.spare(0, 0));
    due.refused("without HOMES", Due.NONE, ThoughtsBoundsTest::viewOnly, x -> x.spare(40, 49));
    due.equal("without HOMES", viewOnly().spare(40, 50), 0);
    due.refused("of one", Due.NONE, () -> hosts(9), x -> x.spare(2, 17));
    due.equal("of one", hosts(9).spare(2, 18), 0);
    due.refused("by one more than all", Due.NONE, () -> hosts(1, 1, 1, 1, 1, 1, 1, 1),
        x -> x.spare(40, 39));
    due.equal("by none of eight", hosts(1, 1, 1, 1, 1, 1, 1, 1).spare(40, 40), 0);
    due.outside("spare(#, 98)", 0, 40, Due.BEYOND, Scenes::full, (x, v) -> x.spare(v, 98));
    due.outside("spare(0, #)", 0, 99, Due.BEYOND, Scenes::full, (x, v) -> x.spare(0, v));
  }

  private static LoanedRound viewOnly() {
    LoanedRound x = new LoanedRound();
    x.set(0, 50);
    return x;
  }

  /** HOSTS with these m's, VIEW 0: VIEW becomes the sum of those who had THE SET. */
  private static LoanedRound hosts(int... ms) {
    return Scenes.of(ms);
  }

  /** All others must be gone PAST, so that THE SET stays where 0 is added. */
  private static void spareOfEight() {
    LoanedRound first = hosts(0, 1, 1, 1, 1, 1, 1, 1);
    due.equal("one DAY on", first.spare(1, 0), 0);
    due.equal("two DAYS on", first.spare(2, 0), 254);
    due.equal("forty DAYS on", first.spare(40, 0), 254);
    due.equal("1 will do", first.spare(2, 1), 0);
    first.past(1, 1);
    due.equal("one is gone PAST already", first.spare(2, 0), 252);
    for (int home = 0; home < 8; home++) {
      first.past(home, 1);
    }
    due.equal("all are gone PAST already", first.spare(40, 0), 0);
    LoanedRound last = hosts(1, 1, 1, 1, 1, 1, 1, 0);
    last.goes(7);
    due.equal("AT the last", last.spare(2, 0), 127);
    LoanedRound next = hosts(0, 1, 0, 1, 1, 1, 1, 1);
    due.equal("one alone", next.spare(2, 0), 2);
    due.equal("all but two", next.spare(3, 0), 250);
  }

  /** 1, 1, 0, 2: 4 by none; 3 by the last alone (8), 3 by the first two as well (3). */
  private static void spareFewestAheadOfLeast() {
    LoanedRound x = hosts(1, 1, 0, 2);
    due.equal("4 will do", x.spare(4, 4), 0);
    due.equal("one is fewer than two", x.spare(4, 3), 8);
    x.past(3, 1);
    due.equal("3 by none then", x.spare(4, 3), 0);
    LoanedRound alike = hosts(3, 1, 1, 1);
    due.equal("3, 1, 1, 1 by none", alike.spare(5, 9), 0);
    due.equal("the first alone, of which the bit is least", alike.spare(5, 8), 1);
    due.equal("any of the others does more", alike.spare(5, 7), 1);
  }

  /** Where THE SET is may be gone PAST, too: it leaves there and comes no more. */
  private static void spareWhereItIs() {
    LoanedRound x = hosts(9, 0);
    due.equal("9, 0, 9", x.spare(3, 18), 0);
    due.equal("9, 0, 0", x.spare(3, 17), 1);
    due.equal("9, 0, 0", x.spare(3, 9), 1);
    due.refused("8 is too little", Due.NONE, () -> hosts(9, 0), y -> y.spare(3, 8));
  }

  /** Promise 23: v is 0 .. 9999, n 0 .. 40. */
  private static void oddsBounds() {
    due.bounded("odds(#, 0, 0, 0) of 8", 0, 7, Scenes::full, (x, v) -> x.odds(v, 0, 0, 0));
    due.bounded("odds(#, 1, 1, 1) of 7", 0, 6, Scenes::busy, (x, v) -> x.odds(v, 1, 1, 1));
    due.bounded("odds(0, #, 40, 0)", 0, 9999, Scenes::busy, (x, v) -> x.odds(0, v, 40, 0));
    due.bounded("odds(7, #, 0, 1)", 0, 9999, Scenes::full, (x, v) -> x.odds(7, v, 0, 1));
    due.bounded("odds(0, 99, #, 0)", 0, 40, Scenes::busy, (x, v) -> x.odds(0, 99, v, 0));
    due.bounded("odds(7, 99, #, 1)", 0, 40, Scenes::full, (x, v) -> x.odds(7, 99, v, 1));
    due.bounded("odds(0, 99, 1, #)", 0, 1, Scenes::busy, (x, v) -> x.odds(0, 99, 1, v));
    due.bounded("odds(7, 0, 40, #)", 0, 1, Scenes::full, (x, v) -> x.odds(7, 0, 40, v));
  }

  /** By 100 VIEWS, 0 .. 99, a HOST hears v or more by 100 - v of them; 0 is 0 by 1. */
  private static void oddsInLowestTerms() {
    LoanedRound x = Scenes.of(0);
    x.set(0, 57);
    for (int v = 0; v <= 101; v++) {
      int above = Math.max(0, 100 - v);
      int below = 100;
      for (int by = 100; by > 1; by--) {
        if (above % by == 0 && below % by == 0) {
          above /= by;
          below /= by;
        }
      }
      fraction(x, v, 1, above, below);
    }
    fraction(x, 0, 1, 1, 1);
    fraction(x, 1, 1, 99, 100);
    fraction(x, 50, 1, 1, 2);
    fraction(x, 99, 1, 1, 100);
    fraction(x, 100, 1, 0, 1);
    fraction(x, 9999, 1, 0, 1);
    due.equal("VIEW stays", x.count(3), 57);
  }

  private static void fraction(LoanedRound x, int v, int n, int above, int below) {
    due.equal("odds(0, " + v + ", " + n + ", 0)", x.odds(0, v, n, 0), above);
    due.equal("odds(0, " + v + ", " + n + ", 1)", x.odds(0, v, n, 1), below);
  }

  private static void oddsOnThisDay() {
    LoanedRound x = Scenes.of(0);
    fraction(x, 0, 0, 1, 1);
    fraction(x, 1, 0, 0, 1);
    x.hears(0, 9999);
    fraction(x, 9999, 0, 1, 1);
    x.hears(0, 9998);
    fraction(x, 9998, 0, 1, 1);
    fraction(x, 9999, 0, 0, 1);
    fraction(x, 9999, 1, 99, 100);
  }

  private static void oddsByForty() {
    LoanedRound x = saysOne(1);
    fraction(x, 40, 40, 1, 1);
    fraction(x, 41, 40, 0, 1);
    fraction(x, 39, 39, 1, 1);
    fraction(x, 40, 39, 0, 1);
    x.untell(0);
    fraction(x, 40, 40, 99, 100);
    fraction(x, 3960, 40, 1, 100);
    fraction(x, 3961, 40, 0, 1);
    x.day(9999);
    fraction(x, 3960, 40, 1, 100);
  }

  /** Promise 24: SHEETS are 0 .. 3, what 0 .. 1. */
  private static void fitsBounds() {
    due.bounded("fits(#, 0)", 0, 3, Scenes::full, (x, v) -> x.fits(v, 0));
    due.bounded("fits(#, 1)", 0, 3, Scenes::full, (x, v) -> x.fits(v, 1));
    due.bounded("fits(3, #)", 0, 1, Scenes::full, (x, v) -> x.fits(3, v));
    due.bounded("fits(0, #)", 0, 1, Scenes::busy, (x, v) -> x.fits(0, v));
  }

  /** A SHEET of no numbers leaves all of HOMES. */
  private static void fitsOfNoNumbers() {
    fits(new LoanedRound(), 0);
    fits(Scenes.of(0), 1);
    fits(Scenes.ofAllKinds(), 127);
    fits(Scenes.ofEightHosts(), 255);
    LoanedRound past = Scenes.full();
    due.equal("sheet(0, 8, 0)", past.sheet(0, 8, 0), 1);
    due.equal("all gone PAST", past.fits(0, 0), 255);
  }

  private static void fits(LoanedRound x, int want) {
    x.sheet(0, 8, 0);
    due.equal("fits(0, 0) of none", x.fits(0, 0), want);
    due.equal("fits(0, 1) of none", x.fits(0, 1), Integer.bitCount(want));
    x.sheet(0, 16, 1);
    due.equal("VIEW 0 is right at once", x.fits(0, 0), want);
    x.set(0, 1);
    due.equal("VIEW 1 is not", x.fits(0, 0), 0);
    due.equal("nor how many", x.fits(0, 1), 0);
  }

  /** 24 numbers, of which the last, the first, and one amid them are looked at. */
  private static void fitsOfAllNumbers() {
    LoanedRound x = hosts(0, 0, 0, 0, 0, 0, 0, 0);
    x.set(0, 50);
    x.sheet(3, 8, 24);
    for (int i = 0; i < 24; i++) {
      due.equal("not yet", x.fits(3, 0), 0);
      x.put(3, i, 50);
    }
    due.equal("all", x.fits(3, 0), 255);
    due.equal("how many", x.fits(3, 1), 8);
    x.become(7, 1);
    due.equal("the last home leaves 1 more", x.fits(3, 0), 0);
    x.put(3, 23, 53);
    due.equal("the last number alone mends nothing", x.fits(3, 0), 0);
    x.sheet(3, 8, 8);
    for (int i = 0; i < 8; i++) {
      x.put(3, i, 50);
    }
    due.equal("of eight DAYS, from the first home", x.fits(3, 0), 1);
    x.put(3, 7, 51);
    due.equal("51 on the eighth, from the second home", x.fits(3, 0), 2);
    due.equal("how many", x.fits(3, 1), 1);
  }

  /** A number of 8 bits is what its lowest bits are; one of more bits is not. */
  private static void fitsByBits() {
    int[][] rows = {{8, 256 + 50, 1}, {16, 256 + 50, 0}, {16, 65536 + 50, 1}, {32, 65536 + 50, 0},
        {32, 50, 1}, {8, 50 - 256, 1}, {16, 50 - 65536, 1}, {32, 50 - 65536, 0}, {8, -50, 0},
        {32, Integer.MIN_VALUE + 50, 0}, {8, Integer.MIN_VALUE + 50, 1}};
    for (int[] row : rows) {
      LoanedRound x = Scenes.of(0);
      x.set(0, 50);
      x.sheet(0, row[0], 1);
      x.put(0, 0, row[1]);
      due.equal(row[1] + " in " + row[0] + " bits fits 50", x.fits(0, 0), row[2]);
    }
  }

  /** A POCOCK leaves 77 on DAY 10000, and neither on 9999 nor on 10001. */
  private static void fitsBeyondTheLastDay() {
    LoanedRound x = Scenes.of(30);
    x.set(0, 5);
    x.day(9999);
    x.sheet(0, 8, 3);
    x.put(0, 0, 5);
    x.put(0, 1, 5);
    x.put(0, 2, 77);
    due.equal("fits(0, 0)", x.fits(0, 0), 1);
    x.put(0, 1, 77);
    due.equal("not on DAY 9999", x.fits(0, 0), 0);
    due.equal("DAY stays", x.count(1), 9999);
  }

  /** Promise 24: BEYOND is asked ahead of NONE. */
  private static void fitsNoneBehindBeyond() {
    due.refused("fits(3, 0)", Due.NONE, Scenes::busy, x -> x.fits(3, 0));
    due.refused("fits(3, 1)", Due.NONE, Scenes::busy, x -> x.fits(3, 1));
    due.refused("new: fits(0, 0)", Due.NONE, LoanedRound::new, x -> x.fits(0, 0));
    due.outside("missing: fits(3, #)", 0, 1, Due.BEYOND, Scenes::busy, (x, v) -> x.fits(3, v));
    due.outside("new: fits(#, 0)", 0, 3, Due.BEYOND, LoanedRound::new, (x, v) -> x.fits(v, 0));
  }
}
