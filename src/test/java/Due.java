import java.util.ArrayList;
import java.util.List;
import java.util.function.Supplier;
import java.util.function.ToIntFunction;

/** Counts the answers that are not the ones that are due, and prints them. */
final class Due {
  private static final int LOW = -1000000000;
  static final int BEYOND = 1;
  static final int NONE = 2;
  static final int STATE = 3;
  static final int FULL = 4;
  static final int KIND = 5;
  static final int PARTED = 6;

  private int wrong = 0;

  void equal(String call, long got, long want) {
    if (got != want) {
      wrong++;
      System.out.println(call + " answered " + got + ", due is " + want);
    }
  }

  /** A call that answers the ERROR LOW - k and changes nothing but what told(k) tells. */
  void refused(String call, int k, Supplier<LoanedRound> scene, ToIntFunction<LoanedRound> act) {
    LoanedRound asked = scene.get();
    LoanedRound twin = scene.get();
    equal(call, act.applyAsInt(asked), LOW - k);
    for (int other = BEYOND; other <= PARTED; other++) {
      equal("told(" + other + ") behind " + call, asked.told(other),
          twin.told(other) + (other == k ? 1 : 0));
    }
    same("behind " + call, asked, twin);
  }

  /** Two objects of which all that can be asked is the same; what is asked uses both up. */
  void same(String when, LoanedRound one, LoanedRound other) {
    List<String> ones = allOf(one);
    List<String> others = allOf(other);
    for (int i = 0; i < Math.max(ones.size(), others.size()); i++) {
      String is = i < ones.size() ? ones.get(i) : "nothing";
      String due = i < others.size() ? others.get(i) : "nothing";
      if (!is.equals(due)) {
        wrong++;
        System.out.println(when + " there is " + is + ", due is " + due);
        return;
      }
    }
  }

  void end() {
    System.out.println(wrong == 0 ? "all answers are as due" : wrong + " answers are not as due");
    if (wrong != 0) {
      System.exit(1);
    }
  }

  private static List<String> allOf(LoanedRound x) {
    List<String> all = new ArrayList<>();
    stateOf(x, all);
    for (int i = 0; i < x.count(10); i++) {
      all.add("body " + i + " " + x.body(i));
    }
    for (int sheet = 0; sheet < 4; sheet++) {
      sheetOf(x, sheet, all);
    }
    all.add("check " + x.check());
    all.add("text " + x.text(1));
    lawsOf(x, all);
    all.add("restore " + x.restore());
    stateOf(x, all);
    all.add("check, restored " + x.check());
    all.add("text, restored " + x.text(1));
    lawsOf(x, all);
    all.add("image " + x.image());
    return all;
  }

  private static void stateOf(LoanedRound x, List<String> all) {
    for (int what = 0; what <= 11; what++) {
      all.add("count " + what + " " + x.count(what));
    }
    for (int home = 0; home < x.count(0); home++) {
      for (int what = 0; what < 8; what++) {
        all.add("homeIs " + home + " " + what + " " + x.homeIs(home, what));
      }
    }
    lawsOf(x, all);
  }

  private static void lawsOf(LoanedRound x, List<String> all) {
    for (int use = 0; use < 2; use++) {
      all.add("law " + use + " " + x.law(use, 31, 7, 3) + " " + x.law(use, 2, 9, 5));
    }
  }

  /** The first numbers of a SHEET by what becomes of HEARD, and of how many bits it is. */
  private static void sheetOf(LoanedRound x, int sheet, List<String> all) {
    all.add("fits " + sheet + " " + x.fits(sheet, 0));
    all.add("judge " + sheet + " " + x.judge(sheet));
    all.add("hearAll " + sheet + " " + x.hearAll(sheet));
    for (int home = 0; home < x.count(0); home++) {
      all.add("heard by sheet " + sheet + " " + x.homeIs(home, 2));
    }
    for (int other = 0; other < 4; other++) {
      all.add("move " + sheet + " " + other + " " + x.move(sheet, 0, other, 0, 0));
    }
  }
}
