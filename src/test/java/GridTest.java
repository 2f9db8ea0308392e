import java.io.IOException;
import java.util.Map;
import java.util.Set;
import java.util.TreeMap;
import java.util.TreeSet;

/**
 * Every call with all its numbers at and next to their bounds, each with each, on objects that
 * are empty, full, and in between; answered by the class and by PlainModel, and what both are
 * behind it, too. So every call comes to each ERROR that it has, which README.md lists.
 */
public final class GridTest {
  private static final int LEAST = Integer.MIN_VALUE;
  private static final int MOST = Integer.MAX_VALUE;
  private static final int[] HOME = {LEAST, -1, 0, 1, 2, 6, 7, 8, MOST};
  private static final int[] SHEET = {LEAST, -1, 0, 1, 2, 3, 4, MOST};
  private static final int[] TWO = {LEAST, -1, 0, 1, 2, MOST};
  private static final int[] ANY = {LEAST, -1000000001, -1, 0, 1, 99, 100, MOST};
  private static final int[] KM = {LEAST, -1, 0, 9, 10, 69, 70, MOST};
  private static final int[] HEARD = {LEAST, -1, 0, 1, 9998, 9999, 10000, MOST};
  private static final int[] SOUGHT = {LEAST, -1, 0, 1, 40, 41, MOST};
  private static final int[] ANY_V = {LEAST, -1, 0, 1, 2, 39, 40, 41, 98, 99, 100, MOST};
  private static final int[] PLACE = {LEAST, -1, 0, 1, 2, 3, 23, 24, 25, MOST};

  private final Scene scene;
  private final Map<String, Set<Integer>> refusals = new TreeMap<>();
  private int asked = 0;
  private boolean alike = true;

  /** The calls with which an object begins; room is left for the one that is looked at. */
  interface Scene {
    void play(Pair pair) throws ReflectiveOperationException;
  }

  private GridTest(Scene scene) {
    this.scene = scene;
  }

  public static void main(String[] args) throws ReflectiveOperationException, IOException {
    int asked = 0;
    Map<String, Set<Integer>> refusals = new TreeMap<>();
    Scene[] scenes = {pair -> { }, GridTest::one, GridTest::some, GridTest::full, GridTest::late};
    for (Scene scene : scenes) {
      GridTest grid = new GridTest(scene);
      grid.all();
      asked += grid.asked;
      grid.refusals.forEach((name, some) ->
          refusals.computeIfAbsent(name, none -> new TreeSet<>()).addAll(some));
      if (!grid.alike) {
        System.exit(1);
      }
    }
    System.out.println(asked + " calls are answered alike");
    if (!refusals.equals(listed())) {
      System.out.println("ERRORS are " + refusals + ", README.md lists " + listed());
      System.exit(1);
    }
  }

  /** The ERRORS of each call as README.md has them, by their numbers below LOW. */
  private static Map<String, Set<Integer>> listed() throws IOException {
    Readme readme = Readme.read();
    Map<String, Integer> numbers = readme.numbersOfErrors();
    Map<String, Set<Integer>> listed = new TreeMap<>();
    readme.errorsOfCalls().forEach((name, errors) -> {
      Set<Integer> some = new TreeSet<>();
      errors.forEach(error -> some.add(-1000000000 - numbers.getOrDefault(error, 0)));
      listed.put(name, some);
    });
    return listed;
  }

  private static void one(Pair pair) throws ReflectiveOperationException {
    pair.call("home", 42);
    pair.call("sheet", 0, 8, 1);
    pair.call("sheet", 3, 8, 0);
    pair.call("set", 0, 50);
  }

  private static void some(Pair pair) throws ReflectiveOperationException {
    for (int km : new int[] {0, 13, 25, 30, 47, 58, 66}) {
      pair.call("home", km);
    }
    pair.call("set", 0, 40);
    text(pair, 0, 's', '+', 'v');
    text(pair, 1, 'l', '-', 'd');
    pair.call("feed", 0x732D37L, 3);
    pair.call("days", 5);
    pair.call("image");
    pair.call("past", 3, 1);
    pair.call("sheet", 0, 8, 3);
    pair.call("sheet", 1, 16, 24);
    pair.call("sheet", 2, 16, 2);
    pair.call("count", 3);
    pair.call("put", 1, 0, pair.latest());
    pair.call("put", 1, 1, 9999);
    pair.call("homeIs", 0, 5);
    pair.call("tell", pair.latest());
    pair.call("voice", 1, 3, 7);
  }

  private static void full(Pair pair) throws ReflectiveOperationException {
    for (int home = 0; home < 8; home++) {
      pair.call("home", 10 * ((home + 1) % 7) + home);
      pair.call("hears", home, 9999 - 7 * home);
    }
    for (int i = 0; i < 24; i++) {
      pair.call("tell", 99);
    }
    for (int i = 0; i < 60; i += 4) {
      pair.call("feed", 0x2B312B31L, 4);
    }
    for (int sheet = 0; sheet < 4; sheet++) {
      pair.call("sheet", sheet, 32, 24);
      pair.call("put", sheet, 0, 99);
      pair.call("put", sheet, 23, -1);
    }
    pair.call("past", 7, 1);
    pair.call("past", 0, 1);
    pair.call("goes", 7);
    pair.call("set", 0, 99);
    pair.call("set", 1, 1);
    pair.call("image");
    pair.call("day", 9999);
  }

  private static void late(Pair pair) throws ReflectiveOperationException {
    some(pair);
    pair.call("home", 9);
    pair.call("set", 2, 40);
    pair.call("day", 9939);
    pair.call("seed", LEAST);
  }

  private static void text(Pair pair, int use, char... bytes) throws ReflectiveOperationException {
    for (char one : bytes) {
      pair.call("feed", one, 1);
    }
    pair.call("text", use);
  }

  private void all() throws ReflectiveOperationException {
    homes();
    texts();
    days();
    thoughts();
    sheets();
    rest();
  }

  private void homes() throws ReflectiveOperationException {
    ask("home", KM);
    ask("homeIs", HOME, new int[] {LEAST, -1, 0, 1, 2, 3, 4, 5, 6, 7, 8, MOST});
    ask("become", HOME, KM);
    ask("as", HOME, new int[] {LEAST, -1, 0, 1, 2, 3, 4, 5, 6, 7, MOST});
    ask("past", HOME, TWO);
    ask("goes", HOME);
    ask("set", new int[] {LEAST, -1, 0, 1, 2, 3, MOST}, ANY_V);
    ask("hears", HOME, HEARD);
  }

  private void texts() throws ReflectiveOperationException {
    ask("feed", new int[] {LEAST, -1, 0, '1', MOST}, new int[] {LEAST, -1, 0, 1, 2, 7, 8, 9, MOST});
    ask("text", TWO);
    ask("untell", TWO);
    int[] some = {LEAST, -1, 0, 100, MOST};
    ask("law", TWO, some, some, some);
  }

  private void days() throws ReflectiveOperationException {
    ask("days", new int[] {LEAST, -1, 0, 1, 2, 59, 60, 61, MOST});
    ask("loose", new int[] {LEAST, -1, 0, 1, 2, 29, 30, 31, MOST});
    ask("day", HEARD);
    ask("seed", ANY);
  }

  private void thoughts() throws ReflectiveOperationException {
    ask("then", new int[] {LEAST, -1, 0, 1, 2, 59, 60, 61, MOST},
        new int[] {LEAST, -1, 0, 1, 2, 3, 4, MOST});
    ask("soonest", HOME, HEARD);
    ask("startFor", HOME, SOUGHT, TWO);
    ask("swapFor", SOUGHT, TWO);
    ask("spare", SOUGHT, new int[] {-1, 0, 50, 99, 100});
    ask("odds", new int[] {-1, 0, 6, 8}, new int[] {-1, 0, 99, 9999, 10000},
        new int[] {-1, 0, 40, 41}, new int[] {-1, 0, 1, 2});
    ask("fits", SHEET, TWO);
  }

  private void sheets() throws ReflectiveOperationException {
    ask("voice", HOME, new int[] {LEAST, -1, 0, 1, 2, 3, 4, MOST}, ANY);
    ask("body", PLACE);
    ask("sheet", SHEET, new int[] {LEAST, -8, -1, 0, 7, 8, 9, 16, 31, 32, 33, 64, MOST}, PLACE);
    ask("put", SHEET, PLACE, ANY);
    int[] places = {-1, 0, 1, 3, 24, MOST};
    ask("move", new int[] {-1, 0, 1, 4}, places, new int[] {1, 2, 3, 4}, places, places);
    ask("hearAll", SHEET);
    ask("judge", SHEET);
  }

  private void rest() throws ReflectiveOperationException {
    ask("image");
    ask("restore");
    ask("tell", ANY);
    ask("check");
    ask("count", new int[] {LEAST, -1, 0, 1, 2, 3, 4, 5, 6, 7, 8, 9, 10, 11, 12, MOST});
    ask("told", new int[] {LEAST, -1, 0, 1, 2, 3, 4, 5, 6, 7, MOST});
  }

  /** The call with each of its numbers' values beside each of the others'. */
  private void ask(String name, int[]... values) throws ReflectiveOperationException {
    int all = 1;
    for (int[] some : values) {
      all *= some.length;
    }
    Pair pair = begin();
    Set<Integer> errors = new TreeSet<>();
    refusals.put(name, errors);
    for (int i = 0; i < all && alike; i++) {
      long[] args = new long[values.length];
      int rest = i;
      for (int j = 0; j < values.length; j++) {
        args[j] = values[j][rest % values[j].length];
        rest /= values[j].length;
      }
      alike = pair.call(name, args);
      if (pair.refusal() > 0) {
        errors.add(pair.refusal());
      }
      alike = alike && (pair.latest() > -1000000000 || isAlike(pair));
      asked++;
      if (alike && (pair.latest() > -1000000000 || pair.calls() > 480)) {
        alike = isAlike(pair) && isAlikeInside(pair);
        pair = alike ? begin() : pair;
      }
    }
    if (!alike) {
      pair.print();
    }
  }

  private Pair begin() throws ReflectiveOperationException {
    Pair pair = new Pair();
    scene.play(pair);
    return pair;
  }

  /** What is told of it: as much as each call can be asked behind. */
  private static boolean isAlike(Pair pair) throws ReflectiveOperationException {
    boolean alike = true;
    for (int k = 1; k <= 6 && alike; k++) {
      alike = pair.call("told", k);
    }
    int[] some = {1, 2, 3, 6, 7, 9};
    for (int i = 0; i < some.length && alike; i++) {
      alike = pair.call("count", some[i]);
    }
    return alike;
  }

  private static boolean isAlikeInside(Pair pair) throws ReflectiveOperationException {
    boolean alike = true;
    for (int what = 0; what < 12 && alike; what++) {
      alike = pair.call("count", what);
    }
    for (int what = 0; what < 8 && alike; what++) {
      alike = pair.call("homeIs", what % 8, what) && pair.call("homeIs", 7 - what, what);
    }
    for (int i = 0; i < 4 && alike; i++) {
      alike = pair.call("body", i) && pair.call("judge", i) && pair.call("fits", i, 0)
          && pair.call("hearAll", i) && pair.call("count", 6);
    }
    return alike && pair.call("law", 0, 31, 7, 3) && pair.call("law", 1, 31, 7, 3)
        && pair.call("check") && pair.call("text", 0) && pair.call("law", 0, 31, 7, 3)
        && pair.call("restore") && pair.call("count", 6);
  }
}
