/** Objects that tests begin with. */
final class Scenes {
  private Scenes() {
  }

  /** A home of every KIND, number by number: 4, 13, 25, 30, 47, 58, 65. */
  static LoanedRound ofAllKinds() {
    LoanedRound x = new LoanedRound();
    int[] all = {4, 13, 25, 30, 47, 58, 65};
    for (int km : all) {
      x.home(km);
    }
    return x;
  }

  /** Something of everything that an object can hold. */
  static LoanedRound busy() {
    LoanedRound x = ofAllKinds();
    x.set(0, 40);
    feed(x, "s+v");
    x.text(0);
    feed(x, "l+d");
    x.text(1);
    feed(x, "l*2");
    x.days(3);
    x.tell(41);
    x.image();
    x.past(2, 1);
    x.tell(7);
    x.loose(2);
    x.voice(1, 3, 7);
    x.sheet(0, 8, 3);
    x.put(0, 0, 1);
    x.put(0, 1, 2);
    x.sheet(1, 16, 4);
    x.put(1, 0, 300);
    x.put(1, 3, 9999);
    x.sheet(2, 32, 2);
    x.put(2, 1, 77);
    return x;
  }

  static int feed(LoanedRound x, String bytes) {
    int answer = 0;
    for (int i = 0; i < bytes.length(); i++) {
      answer = x.feed(bytes.charAt(i), 1);
    }
    return answer;
  }
}
