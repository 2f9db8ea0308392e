/** Objects that tests begin with. */
final class Scenes {
  private Scenes() {
  }

  /** Homes of these KINDS and m's; THE SET AT 0. */
  static LoanedRound of(int... kms) {
    LoanedRound x = new LoanedRound();
    for (int km : kms) {
      x.home(km);
    }
    return x;
  }

  /** A home of every KIND, number by number: 4, 13, 25, 30, 47, 58, 65. */
  static LoanedRound ofAllKinds() {
    return of(4, 13, 25, 30, 47, 58, 65);
  }

  /** As many HOMES as there may be, all HOSTS with an m of 0. */
  static LoanedRound ofEightHosts() {
    return of(0, 0, 0, 0, 0, 0, 0, 0);
  }

  /** Something of everything that an object can hold. */
  static LoanedRound busy() {
    LoanedRound x = ofAllKinds();
    x.set(0, 40);
    feed(x, "s+v");
    x.text(0);
    feed(x, "l+d");
    x.text(1);
    feed(x, "l*2");
    x.days(3);
    x.tell(41);
    x.image();
    x.past(2, 1);
    x.loose(2);
    x.voice(1, 3, 7);
    x.sheet(0, 8, 3);
    x.put(0, 0, 1);
    x.put(0, 1, 2);
    x.sheet(1, 16, 4);
    x.put(1, 0, 300);
    x.put(1, 3, 9999);
    x.sheet(2, 32, 2);
    x.put(2, 1, 77);
    tellSaid(x, 2);
    return x;
  }

  /** As much of everything as an object can hold, on its last DAY; k of home 7 is its m. */
  static LoanedRound full() {
    LoanedRound x = of(9, 19, 29, 39, 49, 59, 69, 7);
    x.image();
    feed(x, "s+v+d");
    x.text(0);
    feed(x, "l+s+d");
    x.text(1);
    feed(x, "10" + "+1".repeat(29));
    for (int home = 0; home < 8; home++) {
      x.past(home, 1);
      x.hears(home, 9999 - home);
    }
    x.goes(7);
    x.set(0, 99);
    x.set(1, 0);
    x.set(2, 40);
    x.day(9999);
    x.seed(Integer.MIN_VALUE);
    x.voice(4, 3, 7);
    fullSheets(x);
    tellSaid(x, 24);
    return x;
  }

  private static void fullSheets(LoanedRound x) {
    for (int sheet = 0; sheet < 4; sheet++) {
      x.sheet(sheet, sheet == 0 ? 8 : sheet == 1 ? 16 : 32, 24);
      x.put(sheet, 0, 100 + sheet);
      x.put(sheet, 7, 110 + sheet);
      x.put(sheet, 23, 120 + sheet);
    }
  }

  /** So many numbers wait instead of those that waited; they are right while there are HOMES. */
  private static void tellSaid(LoanedRound x, int n) {
    x.check();
    int homes = x.count(0);
    for (int i = 0; i < n; i++) {
      x.tell(i < homes ? x.homeIs(i, 5) : i);
    }
  }

  /** THE TAPE takes eight bytes at a time: how many there are then. */
  static int feed(LoanedRound x, String bytes) {
    int answer = 0;
    for (int i = 0; i < bytes.length(); i += 8) {
      int n = Math.min(8, bytes.length() - i);
      long word = 0;
      for (int j = n - 1; j >= 0; j--) {
        word = word << 8 | bytes.charAt(i + j);
      }
      answer = x.feed(word, n);
    }
    return answer;
  }

  /** What text() answers to these bytes. */
  static int read(LoanedRound x, int use, String bytes) {
    feed(x, bytes);
    return x.text(use);
  }
}
