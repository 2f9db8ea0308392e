import java.util.Random;

/** Runs of calls by chance (the same ones each time), answered by the class and by PlainModel. */
public final class ModelTest {
  private static final int RUNS = 400;
  private static final int CALLS = 490;
  private static final int[] ODD = {-1, -1000000001, Integer.MIN_VALUE, Integer.MAX_VALUE, 7, 100,
      9999, 10000, 200, 255, 65535};

  private final Random random;
  private final Pair pair = new Pair();

  private ModelTest(int seed) {
    random = new Random(seed);
  }

  public static void main(String[] args) throws ReflectiveOperationException {
    int runs = args.length > 0 ? Integer.parseInt(args[0]) : RUNS;
    for (int run = 0; run < runs; run++) {
      if (!new ModelTest(run).agrees(run)) {
        System.exit(1);
      }
    }
    System.out.println(runs + " runs are answered alike");
  }

  private boolean agrees(int run) throws ReflectiveOperationException {
    int homes = random.nextInt(9);
    for (int i = 0; i < homes; i++) {
      call("home", random.nextInt(70));
    }
    while (pair.calls() < CALLS) {
      if (!step()) {
        System.out.println("run " + run + ", from its first call on:");
        pair.print();
        return false;
      }
    }
    return true;
  }

  private boolean step() throws ReflectiveOperationException {
    int home = any(8);
    switch (random.nextInt(58)) {
      case 0: return random.nextInt(8) > 0 || call("home", any(70));
      case 1: case 2: case 3: case 4: return call("homeIs", home, any(8));
      case 5: return call("become", home, any(70));
      case 6: return call("as", home, any(7));
      case 7: return call("past", home, any(2));
      case 8: return call("goes", home);
      case 9: case 10: return call("set", any(3), any(random.nextBoolean() ? 41 : 100));
      case 11: return call("hears", home, any(10000));
      case 12: return call("feed", random.nextLong(), any(9));
      case 13: case 14: case 15: return feedText() && call("text", any(2));
      case 16: return random.nextInt(3) > 0 || call("untell", any(2));
      case 17: case 18: case 19: return call("law", any(2), number(), number(), number());
      case 20: case 21: case 22: return call("days", any(random.nextBoolean() ? 4 : 61));
      case 23: return call("loose", any(31));
      case 24: return call("day", any(random.nextBoolean() ? 10000 : 30));
      case 25: return random.nextInt(4) > 0 || call("seed", number());
      case 26: case 27: return call("then", any(61), any(4));
      case 28: return call("soonest", home, any(random.nextBoolean() ? 10000 : 2000));
      case 29: return call("startFor", home, any(41), any(2));
      case 30: return call("swapFor", any(41), any(2));
      case 31: return random.nextInt(6) > 0 || call("spare", any(41), any(100));
      case 32: return random.nextInt(4) > 0
          || call("odds", home, any(random.nextBoolean() ? 100 : 2000), any(41), any(2));
      case 33: return call("fits", any(4), any(2));
      case 34: return tellViews() && call("fits", 1, any(2));
      case 35: case 36: case 37: case 38: return call("voice", home, any(4), number());
      case 39: case 40: return call("body", any(7));
      case 41: case 42: return call("sheet", any(4), 8 * any(5), any(25));
      case 43: case 44: case 45: return call("put", any(4), any(24), number());
      case 46: case 47: return call("move", any(4), any(10), any(4), any(10), any(10));
      case 48: return call("hearAll", any(4));
      case 49: return call("judge", any(4));
      case 50: return random.nextInt(3) > 0 || call("image");
      case 51: return random.nextInt(3) > 0 || call("restore");
      case 52: return call("tell", any(100));
      case 53: return tellSaid() && call("check");
      case 54: case 55: case 56: return call("count", any(12));
      default: return call("told", any(7));
    }
  }

  /** Mostly 0 .. most - 1, at times something odd. */
  private int any(int most) {
    if (random.nextInt(40) == 0) {
      return ODD[random.nextInt(ODD.length)];
    }
    return random.nextInt(most);
  }

  private int number() {
    switch (random.nextInt(4)) {
      case 0: return random.nextInt();
      case 1: return random.nextInt(100);
      case 2: return random.nextInt(20000) - 5000;
      default: return ODD[random.nextInt(ODD.length)];
    }
  }

  private boolean tellSaid() throws ReflectiveOperationException {
    boolean alike = call("check") && call("count", 0);
    int homes = pair.latest();
    for (int i = 0; i < homes && alike; i++) {
      alike = call("homeIs", i, 5);
      alike &= call("tell", random.nextInt(12) == 0 ? any(100) : pair.latest());
    }
    return alike;
  }

  /** A SHEET of the VIEWS that would be, at times from another home on, at times not quite. */
  private boolean tellViews() throws ReflectiveOperationException {
    int n = random.nextInt(6);
    boolean alike = call("sheet", 1, 16, n) && call("count", 0);
    if (pair.latest() > 0) {
      alike &= call("goes", random.nextInt(pair.latest()));
    }
    for (int i = 0; i < n && alike; i++) {
      alike = call("then", i, 0);
      alike &= call("put", 1, i, pair.latest() + (random.nextInt(15) == 0 ? 1 : 0));
    }
    return alike;
  }

  private boolean feedText() throws ReflectiveOperationException {
    StringBuilder text = new StringBuilder(random.nextInt(2) == 0 ? text("svd", 0)
        : text("lsd", 0));
    if (random.nextInt(3) == 0 && text.length() > 0) {
      String signs = "svdl0123456789+-*/%<=>|&!() ";
      int place = random.nextInt(text.length());
      text.setCharAt(place, signs.charAt(random.nextInt(signs.length())));
    }
    if (random.nextInt(6) == 0) {
      text.setLength(random.nextInt(text.length() + 1));
    }
    boolean alike = true;
    for (int i = 0; i < text.length() && alike; i += 8) {
      long word = random.nextLong();
      int n = Math.min(8, text.length() - i);
      for (int j = 0; j < n; j++) {
        word = word & ~(255L << 8 * j) | (long) text.charAt(i + j) << 8 * j;
      }
      alike = call("feed", word, n);
    }
    return alike;
  }

  private String text(String names, int open) {
    StringBuilder text = new StringBuilder(operand(names, open));
    int more = random.nextInt(4);
    for (int i = 0; i < more; i++) {
      text.append("+-*/%|&<=>+-*/%".charAt(random.nextInt(15))).append(operand(names, open));
    }
    return text.toString();
  }

  private String operand(String names, int open) {
    switch (random.nextInt(6)) {
      case 0: return String.valueOf(random.nextInt(random.nextBoolean() ? 10000 : 12));
      case 1: return "!" + operand(names, open + 1);
      case 2: return open < 6 ? "(" + text(names, open + 1) + ")" : "1";
      default: return names.substring(random.nextInt(3)).substring(0, 1);
    }
  }

  private boolean call(String name, long... args) throws ReflectiveOperationException {
    return pair.call(name, args);
  }
}
