import java.util.function.ToIntFunction;

/** Promises 18 to 24: what would be. */
public final class ThoughtsTest {
  private static final Due due = new Due();

  public static void main(String[] args) {
    then();
    onlyThought();
    soonest();
    startFor();
    swapFor();
    spare();
    odds();
    fits();
    beyond();
    due.end();
  }

  /** HOST with 3, AUNT with 2, VIEW 60, SHARP 10, STEEL 3. */
  private static LoanedRound two() {
    LoanedRound x = new LoanedRound();
    x.home(3);
    x.home(12);
    x.set(0, 60);
    x.set(1, 10);
    x.set(2, 3);
    return x;
  }

  private static void then() {
    int[][] rows = {{60, 10, 0, 0}, {63, 7, 1, 60}, {42, 3, 0, 133}, {45, 99, 1, 175}};
    LoanedRound x = two();
    for (int n = 0; n < rows.length; n++) {
      for (int what = 0; what < 4; what++) {
        due.equal("then(" + n + ", " + what + ")", x.then(n, what), rows[n][what]);
      }
    }
    LoanedRound late = new LoanedRound();
    late.home(30);
    late.day(9999);
    due.equal("then beyond 9999", late.then(1, 0), 0);
    due.equal("then beyond 9999, on an even DAY", late.then(2, 0), 77);
    late.set(2, 40);
    due.equal("STEEL at 10000", late.then(1, 1), 99);
    due.equal("DAY stays", late.count(1), 9999);
    due.equal("without HOMES", new LoanedRound().then(60, 3), 0);
  }

  private static void onlyThought() {
    unchanged("then", x -> x.then(60, 0));
    unchanged("soonest", x -> x.soonest(1, 100));
    unchanged("startFor", x -> x.startFor(1, 9, 0));
    unchanged("swapFor", x -> x.swapFor(9, 0));
    unchanged("spare", x -> x.spare(9, 50));
    unchanged("odds", x -> x.odds(1, 50, 9, 0));
    unchanged("fits", x -> x.fits(1, 0));
  }

  private static void unchanged(String call, ToIntFunction<LoanedRound> act) {
    due.allowed(call, Scenes::busy, act);
    due.same("behind " + call, () -> Due.behind(Scenes::busy, act), Scenes::busy);
  }

  private static void soonest() {
    LoanedRound x = two();
    due.equal("soonest(0, 0)", x.soonest(0, 0), 0);
    due.equal("soonest(0, 1)", x.soonest(0, 1), 1);
    due.equal("soonest(0, 60)", x.soonest(0, 60), 1);
    due.equal("soonest(0, 61)", x.soonest(0, 61), 3);
    due.equal("soonest(1, 73)", x.soonest(1, 73), 2);
    due.equal("soonest(1, 74)", x.soonest(1, 74), 4);
    LoanedRound far = new LoanedRound();
    far.home(0);
    far.set(0, 10);
    due.equal("at 60", far.soonest(0, 600), 60);
    due.refused("soonest(0, 601)", Due.NONE, ThoughtsTest::ten, y -> y.soonest(0, 601));
    far.hears(0, 9998);
    due.equal("to the most", far.soonest(0, 9999), 1);
    due.refused("soonest AT a WAKE", Due.NONE, Scenes::ofAllKinds, y -> y.soonest(6, 1));
  }

  private static LoanedRound ten() {
    LoanedRound x = new LoanedRound();
    x.home(0);
    x.set(0, 10);
    return x;
  }

  /** Two HOSTS and an AUNT with 0: 20 DAYS make VIEW less at each AUNT. */
  private static void startFor() {
    LoanedRound x = new LoanedRound();
    x.home(0);
    x.home(0);
    x.home(10);
    x.set(0, 40);
    due.equal("n 0, the least", x.startFor(1, 0, 0), 0);
    due.equal("n 0", x.startFor(1, 0, 1), 0);
    due.equal("n 1", x.startFor(1, 1, 0), 1);
    due.equal("n 1", x.startFor(1, 1, 1), 40);
    due.equal("n 2, the least that is as good", x.startFor(1, 2, 0), 0);
    due.equal("n 3", x.startFor(2, 3, 0), 0);
    due.equal("n 3: 50 from each", x.startFor(2, 3, 1), 50);
    due.equal("n 4: AUNT, two HOSTS, AUNT", x.startFor(2, 4, 0), 2);
    due.equal("n 4: 50 and 30", x.startFor(2, 4, 1), 80);
    x.hears(2, 100);
    due.equal("HEARD ahead counts", x.startFor(2, 4, 1), 180);
    x.past(2, 1);
    due.equal("one that is gone PAST may be the start", x.startFor(2, 4, 0), 2);
    due.equal("and is not come to again", x.startFor(2, 4, 1), 150);
  }

  /** HOST, HOST, WAKE: what is SAID in two DAYS is less if the WAKE comes first. */
  private static void swapFor() {
    LoanedRound x = new LoanedRound();
    x.home(0);
    x.home(1);
    x.home(60);
    x.set(0, 50);
    due.equal("as it is", x.then(2, 3), 100);
    due.equal("swapFor(2, 0)", x.swapFor(2, 0), 2);
    due.equal("swapFor(2, 1)", x.swapFor(2, 1), 0);
    due.equal("swapFor(1, 0)", x.swapFor(1, 0), 2);
    due.equal("swapFor(3, 1)", x.swapFor(3, 1), 1);
    x.goes(1);
    due.equal("THE SET stays in its place", x.swapFor(1, 0), 12);
    due.equal("none of it", x.swapFor(1, 1), 0);
    x.hears(2, 9);
    due.equal("HEARD goes along", x.swapFor(1, 1), 9);
    due.refused("swapFor(0, 0)", Due.NONE, Scenes::busy, y -> y.swapFor(0, 0));
    due.refused("swapFor(0, 1)", Due.NONE, Scenes::busy, y -> y.swapFor(0, 1));
    due.refused("swapFor without HOMES", Due.NONE, LoanedRound::new, y -> y.swapFor(9, 0));
    due.refused("swapFor of one", Due.NONE, ThoughtsTest::ten, y -> y.swapFor(9, 0));
    swapOfAlike();
    swapOfM();
    swapOfPastAlone();
    swapOfPast();
  }

  /** 0 and 1 HOSTS, 2 and 3 WAKES: as good with 2 as with 3, and then with 1. */
  private static void swapOfAlike() {
    LoanedRound x = new LoanedRound();
    x.home(0);
    x.home(0);
    x.home(60);
    x.home(60);
    x.set(0, 50);
    due.equal("the lesser of the greater", x.swapFor(1, 0), 2);
    x.goes(1);
    due.equal("the lesser first", x.swapFor(1, 0), 12);
  }

  /** m goes along: AUNTS leave less the less it is, wherever they stand. */
  private static void swapOfM() {
    LoanedRound x = new LoanedRound();
    x.home(19);
    x.home(10);
    x.set(0, 50);
    due.equal("as it is", x.then(2, 3), 60 + 84);
    due.equal("swapFor(2, 0)", x.swapFor(2, 0), 1);
    due.equal("swapFor(2, 1)", x.swapFor(2, 1), 60 + 35);
  }

  /** One that is gone PAST comes to the place that is next: it is not come to there. */
  private static void swapOfPastAlone() {
    LoanedRound x = new LoanedRound();
    x.home(0);
    x.home(1);
    x.home(2);
    x.past(2, 1);
    x.hears(1, 9990);
    x.hears(2, 9000);
    x.set(0, 50);
    due.equal("as it is", x.then(3, 3), 50 + 9999 + 9000 + 51);
    due.equal("swapFor(3, 0)", x.swapFor(3, 0), 1);
    due.equal("AT 0 with 9990, AT 1, AT 0", x.swapFor(3, 1), 9999 + 9000 + 51);
    x.goes(2);
    due.equal("from the one that is PAST", x.then(2, 3), 9000 + 50 + 9990 + 52);
    due.equal("first 0 and 1, then as good 0 and 2", x.swapFor(2, 0), 1);
    due.equal("either way", x.swapFor(2, 1), 9999 + 9000 + 50);
  }

  /** AT 0, then to 1; being gone PAST goes along, so that 2, with less to hear, comes next. */
  private static void swapOfPast() {
    LoanedRound x = new LoanedRound();
    x.home(60);
    x.home(0);
    x.home(60);
    x.home(0);
    x.past(2, 1);
    x.hears(3, 9990);
    x.set(0, 0);
    Scenes.feed(x, "7");
    x.text(0);
    due.equal("as it is", x.then(4, 3), 9990 + 28);
    due.equal("HEARD of 9999 at most", x.swapFor(4, 0), 3);
    due.equal("twice AT the one with 9990", x.swapFor(4, 1), 9990 + 9 + 14);
  }

  /** VIEW 10; HOSTS with 1, 2, 4, and again with 4: n DAYS add what they leave. */
  private static void spare() {
    LoanedRound x = new LoanedRound();
    x.home(1);
    x.home(2);
    x.home(4);
    x.home(4);
    x.set(0, 10);
    due.equal("none", x.spare(2, 13), 0);
    due.equal("none at all", x.spare(0, 10), 0);
    due.equal("1, 4, 1 is 6; 1, 2, 1 would be less, but by a greater set", x.spare(3, 16), 6);
    due.equal("1, 2, 1", x.spare(3, 15), 12);
    due.equal("four times 1, by three", x.spare(4, 14), 14);
    due.equal("1, 2, 4, 1: of several the least", x.spare(4, 18), 4);
    x.past(1, 1);
    due.equal("gone PAST, too", x.spare(4, 14), 12);
    due.equal("those are not among them", x.spare(3, 15), 12);
    due.refused("spare(0, 9)", Due.NONE, ThoughtsTest::ten, y -> y.spare(0, 9));
    due.refused("spare(40, 9)", Due.NONE, ThoughtsTest::ten, y -> y.spare(40, 9));
    due.refused("spare without HOMES", Due.NONE, ThoughtsTest::viewOnly, y -> y.spare(3, 9));
    due.equal("VIEW 0", new LoanedRound().spare(3, 0), 0);
    due.equal("spare without HOMES", viewOnly().spare(3, 10), 0);
  }

  private static LoanedRound viewOnly() {
    LoanedRound x = new LoanedRound();
    x.set(0, 10);
    return x;
  }

  private static void odds() {
    LoanedRound x = two();
    fraction(x, 0, 0, 0, 1, 1);
    fraction(x, 0, 1, 0, 0, 1);
    fraction(x, 0, 60, 1, 2, 5);
    fraction(x, 0, 1, 1, 99, 100);
    fraction(x, 0, 99, 1, 1, 100);
    fraction(x, 0, 86, 1, 7, 50);
    fraction(x, 0, 98, 1, 1, 50);
    fraction(x, 0, 95, 1, 1, 20);
    fraction(x, 0, 75, 1, 1, 4);
    fraction(x, 0, 100, 1, 0, 1);
    fraction(x, 0, 50, 1, 1, 2);
    x.hears(0, 9950);
    fraction(x, 0, 9999, 1, 51, 100);
    fraction(x, 0, 9950, 40, 1, 1);
    // By VIEW 86 .. 96 the HOST leaves 89 .. 99; by 97 .. 99 it leaves 0 .. 2.
    fraction(x, 1, 99, 2, 11, 100);
  }

  private static void fraction(LoanedRound x, int home, int v, int n, int above, int below) {
    String call = "odds(" + home + ", " + v + ", " + n + ", ";
    due.equal(call + "0)", x.odds(home, v, n, 0), above);
    due.equal(call + "1)", x.odds(home, v, n, 1), below);
  }

  private static void fits() {
    LoanedRound x = two();
    x.sheet(0, 16, 3);
    x.put(0, 0, 60);
    x.put(0, 1, 63);
    x.put(0, 2, 42);
    due.equal("from the HOST's", x.fits(0, 0), 1);
    due.equal("how many", x.fits(0, 1), 1);
    x.put(0, 1, 41);
    x.put(0, 2, 44);
    due.equal("from the AUNT's", x.fits(0, 0), 2);
    x.put(0, 2, 45);
    due.equal("not on the last DAY", x.fits(0, 0), 0);
    due.equal("how many", x.fits(0, 1), 0);
    x.sheet(0, 32, 1);
    due.equal("another VIEW now", x.fits(0, 0), 0);
    x.put(0, 0, 60);
    due.equal("VIEW now", x.fits(0, 0), 3);
    x.past(1, 1);
    due.equal("also one that is gone PAST", x.fits(0, 0), 3);
    due.equal("how many", x.fits(0, 1), 2);
    x.sheet(0, 8, 0);
    due.equal("of no numbers", x.fits(0, 0), 3);
    due.equal("THE SET stays", x.count(2), 0);
    LoanedRound none = new LoanedRound();
    none.sheet(0, 8, 1);
    due.equal("without HOMES", none.fits(0, 0), 0);
    due.refused("fits(3, 0)", Due.NONE, Scenes::busy, y -> y.fits(3, 0));
    due.refused("fits(3, 2)", Due.BEYOND, Scenes::busy, y -> y.fits(3, 2));
    due.refused("fits(0, 2)", Due.BEYOND, Scenes::busy, y -> y.fits(0, 2));
    due.refused("fits(0, -1)", Due.BEYOND, Scenes::busy, y -> y.fits(0, -1));
    due.refused("fits(4, 0)", Due.BEYOND, Scenes::busy, y -> y.fits(4, 0));
    due.refused("fits(-1, 0)", Due.BEYOND, Scenes::busy, y -> y.fits(-1, 0));
  }

  private static void beyond() {
    due.refused("then(-1, 0)", Due.BEYOND, Scenes::busy, y -> y.then(-1, 0));
    due.refused("then(61, 0)", Due.BEYOND, Scenes::busy, y -> y.then(61, 0));
    due.refused("then(0, -1)", Due.BEYOND, Scenes::busy, y -> y.then(0, -1));
    due.refused("then(0, 4)", Due.BEYOND, Scenes::busy, y -> y.then(0, 4));
    due.refused("soonest(7, 0)", Due.BEYOND, Scenes::busy, y -> y.soonest(7, 0));
    due.refused("soonest(-1, 0)", Due.BEYOND, Scenes::busy, y -> y.soonest(-1, 0));
    due.refused("soonest(0, -1)", Due.BEYOND, Scenes::busy, y -> y.soonest(0, -1));
    due.refused("soonest(0, 10000)", Due.BEYOND, Scenes::busy, y -> y.soonest(0, 10000));
    int[][] starts = {{-1, 0, 0}, {7, 0, 0}, {0, -1, 0}, {0, 41, 0}, {0, 0, -1}, {0, 0, 2}};
    for (int[] call : starts) {
      due.refused("startFor(" + call[0] + ", " + call[1] + ", " + call[2] + ")", Due.BEYOND,
          Scenes::busy, y -> y.startFor(call[0], call[1], call[2]));
    }
    int[][] swaps = {{-1, 0}, {41, 0}, {0, -1}, {0, 2}};
    for (int[] call : swaps) {
      due.refused("swapFor(" + call[0] + ", " + call[1] + ")", Due.BEYOND,
          Scenes::busy, y -> y.swapFor(call[0], call[1]));
    }
    int[][] spares = {{-1, 0}, {41, 0}, {0, -1}, {0, 100}};
    for (int[] call : spares) {
      due.refused("spare(" + call[0] + ", " + call[1] + ")", Due.BEYOND,
          Scenes::busy, y -> y.spare(call[0], call[1]));
    }
    int[][] odds = {{-1, 0, 0, 0}, {7, 0, 0, 0}, {0, -1, 0, 0}, {0, 10000, 0, 0},
        {0, 0, -1, 0}, {0, 0, 41, 0}, {0, 0, 0, -1}, {0, 0, 0, 2}};
    for (int[] call : odds) {
      due.refused("odds(" + call[0] + ", " + call[1] + ", " + call[2] + ", " + call[3] + ")",
          Due.BEYOND, Scenes::busy, y -> y.odds(call[0], call[1], call[2], call[3]));
    }
  }
}
