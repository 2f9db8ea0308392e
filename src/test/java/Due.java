import java.util.ArrayList;
import java.util.List;
import java.util.function.Function;
import java.util.function.Supplier;
import java.util.function.ToIntFunction;

/** Counts the answers that are not the ones that are due, and prints them. */
final class Due {
  private static final int LOW = -1000000000;
  static final int BEYOND = 1;
  static final int NONE = 2;
  static final int STATE = 3;
  static final int FULL = 4;
  static final int KIND = 5;
  static final int PARTED = 6;

  /** What can be asked of an object, in parts: asking uses an object up, and has 512 calls. */
  private static final List<Function<LoanedRound, List<String>>> PARTS =
      List.of(Due::stateOf, Due::sheetsOf, Due::waitingOf, Due::imageOf);

  private int wrong = 0;

  /** An act of which one number is looked at. */
  interface Act {
    int ask(LoanedRound x, int v);
  }

  void equal(String call, long got, long want) {
    if (got != want) {
      wrong++;
      System.out.println(call + " answered " + got + ", due is " + want);
    }
  }

  /** A call that answers the ERROR LOW - k and changes nothing but what told(k) tells. */
  void refused(String call, int k, Supplier<LoanedRound> scene, ToIntFunction<LoanedRound> act) {
    LoanedRound asked = scene.get();
    LoanedRound twin = scene.get();
    equal(call, act.applyAsInt(asked), LOW - k);
    for (int other = BEYOND; other <= PARTED; other++) {
      equal("told(" + other + ") behind " + call, asked.told(other),
          twin.told(other) + (other == k ? 1 : 0));
    }
    same("behind " + call, () -> behind(scene, act), scene);
  }

  /** As refused, by an act that THE TRACE is of, whatever it answers. */
  void refusedButForTheTrace(String call, int k, Supplier<LoanedRound> scene,
      ToIntFunction<LoanedRound> act) {
    refused(call, k, () -> behind(scene, act), act);
  }

  /** A call that is no ERROR, whatever it answers: no told(k) tells more behind it. */
  void allowed(String call, Supplier<LoanedRound> scene, ToIntFunction<LoanedRound> act) {
    LoanedRound asked = scene.get();
    LoanedRound twin = scene.get();
    act.applyAsInt(asked);
    for (int k = BEYOND; k <= PARTED; k++) {
      equal("told(" + k + ") behind " + call, asked.told(k), twin.told(k));
    }
  }

  /** From least to most (# in the call) the act is allowed; on both sides of that it is BEYOND. */
  void bounded(String call, int least, int most, Supplier<LoanedRound> scene, Act act) {
    allowed(call.replace("#", "" + least), scene, x -> act.ask(x, least));
    allowed(call.replace("#", "" + most), scene, x -> act.ask(x, most));
    outside(call, least, most, BEYOND, scene, act);
  }

  /** Ahead of least and behind most, next to them and farthest from them, there is an ERROR. */
  void outside(String call, int least, int most, int k, Supplier<LoanedRound> scene, Act act) {
    int[] beyond = {least - 1, most + 1, Integer.MIN_VALUE, Integer.MAX_VALUE};
    for (int v : beyond) {
      refused(call.replace("#", "" + v), k, scene, x -> act.ask(x, v));
    }
  }

  /** Two objects, made anew for each part, of which all that can be asked is the same. */
  void same(String when, Supplier<LoanedRound> one, Supplier<LoanedRound> other) {
    for (Function<LoanedRound, List<String>> part : PARTS) {
      same(when, part.apply(one.get()), part.apply(other.get()));
    }
  }

  private void same(String when, List<String> ones, List<String> others) {
    for (int i = 0; i < Math.max(ones.size(), others.size()); i++) {
      String is = i < ones.size() ? ones.get(i) : "nothing";
      String due = i < others.size() ? others.get(i) : "nothing";
      if (!is.equals(due)) {
        wrong++;
        System.out.println(when + " there is " + is + ", due is " + due);
        return;
      }
    }
  }

  /** A TEXT of a USE, and what the USE gives by it. */
  void gives(int use, String text, int a, int b, int c, int want) {
    LoanedRound x = new LoanedRound();
    equal("text of '" + text + "'", Scenes.read(x, use, text), 1);
    equal("'" + text + "' by " + a + ", " + b + ", " + c, x.law(use, a, b, c), want);
  }

  /** Bytes that are no TEXT of a USE, by the place of their FAULT. */
  void fault(int use, String bytes, int place) {
    LoanedRound x = new LoanedRound();
    equal("text of '" + bytes + "'", Scenes.read(x, use, bytes), -10 - place);
    equal("THE TAPE behind '" + bytes + "'", x.count(8), 0);
    equal("no TEXT of '" + bytes + "'", x.untell(use), 0);
  }

  void end() {
    System.out.println(wrong == 0 ? "all answers are as due" : wrong + " answers are not as due");
    if (wrong != 0) {
      System.exit(1);
    }
  }

  /** An object of the scene behind an act. */
  static LoanedRound behind(Supplier<LoanedRound> scene, ToIntFunction<LoanedRound> act) {
    LoanedRound x = scene.get();
    act.applyAsInt(x);
    return x;
  }

  private static List<String> stateOf(LoanedRound x) {
    List<String> all = new ArrayList<>();
    for (int what = 0; what <= 11; what++) {
      all.add("count " + what + " " + x.count(what));
    }
    int homes = x.count(0);
    for (int home = 0; home < homes; home++) {
      for (int what = 0; what < 8; what++) {
        all.add("homeIs " + home + " " + what + " " + x.homeIs(home, what));
      }
    }
    int bodies = x.count(10);
    for (int i = 0; i < bodies; i++) {
      all.add("body " + i + " " + x.body(i));
    }
    all.addAll(lawsOf(x));
    return all;
  }

  private static List<String> lawsOf(LoanedRound x) {
    List<String> all = new ArrayList<>();
    for (int use = 0; use < 2; use++) {
      all.add("law " + use + " " + x.law(use, 31, 7, 3) + " " + x.law(use, 2, 9, 5));
    }
    return all;
  }

  private static List<String> sheetsOf(LoanedRound x) {
    List<String> all = new ArrayList<>();
    if (x.count(0) == 0) {
      x.home(0);
    }
    for (int sheet = 0; sheet < 4; sheet++) {
      for (int other = 0; other < sheet; other++) {
        all.add("of bits " + sheet + " " + other + " " + x.move(sheet, 0, other, 0, 0));
      }
    }
    for (int sheet = 0; sheet < 4; sheet++) {
      numbersOf(x, sheet, all);
    }
    return all;
  }

  /** Each number by what it makes of HEARD: it has to come to the SHEET's first place for that. */
  private static void numbersOf(LoanedRound x, int sheet, List<String> all) {
    int size = sizeOf(x, sheet);
    all.add("size of sheet " + sheet + " " + size);
    for (int i = 0; i < size; i++) {
      x.move(sheet, i, sheet, 0, 1);
      all.add("sheet " + sheet + " " + i + " " + x.hearAll(sheet) + " " + x.homeIs(0, 2));
    }
  }

  /** -1 for a SHEET that is missing. */
  private static int sizeOf(LoanedRound x, int sheet) {
    int least = -1;
    int above = 25;
    while (above - least > 1) {
      int middle = (least + above) / 2;
      if (x.move(sheet, 0, sheet, 0, middle) == middle) {
        least = middle;
      } else {
        above = middle;
      }
    }
    return least;
  }

  /** THE TAPE and the numbers that wait, by what becomes of them. */
  private static List<String> waitingOf(LoanedRound x) {
    List<String> all = new ArrayList<>();
    all.add("check " + x.check());
    all.add("text " + x.text(1));
    all.addAll(lawsOf(x));
    return all;
  }

  private static List<String> imageOf(LoanedRound x) {
    List<String> all = new ArrayList<>();
    all.add("restore " + x.restore());
    all.addAll(stateOf(x));
    all.addAll(waitingOf(x));
    all.add("image " + x.image());
    return all;
  }
}
