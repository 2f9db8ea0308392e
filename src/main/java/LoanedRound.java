/**
 * The carving set that goes round a hamlet on loan, and what is heard of it on the way.
 * ../shared/DOC.md says what every call promises; the words in capitals here are its words.
 */
public final class LoanedRound {
  private static final int LOW = -1000000000;
  private static final int BEYOND = 1;
  private static final int NONE = 2;
  private static final int STATE = 3;
  private static final int FULL = 4;
  private static final int KIND = 5;
  private static final int PARTED = 6;

  private static final int MOST_HOMES = 8;
  private static final int MOST_KM = 69;
  private static final int MOST_DAY = 9999;
  private static final int MOST_HEARD = 9999;
  private static final int MOST_VIEW = 99;
  private static final int MOST_SHARP = 99;
  private static final int MOST_STEEL = 40;
  private static final int MOST_BYTES = 60;
  private static final int MOST_WAITING = 24;
  private static final int MOST_TRACED = 30;
  private static final int MOST_NUMBERS = 24;
  private static final int SHEETS = 4;

  private static final int MOST_DAYS = 60;
  private static final int MOST_LOOSE_DAYS = 30;
  private static final int MOST_DAYS_SOUGHT = 40;

  private static final int HOST = 0;
  private static final int AUNT = 1;
  private static final int FRIENDS = 2;
  private static final int POCOCK = 3;
  private static final int BOY = 4;
  private static final int FELLOW = 5;
  private static final int WAKE = 6;
  /** The KIND that each one stands under; HOST stands under none and is named itself. */
  private static final int[] ABOVE = {HOST, HOST, HOST, HOST, AUNT, FRIENDS, HOST};

  private static final int SAID = 0;
  private static final int BEHIND = 1;

  private final State now = new State();
  private final State kept = new State();
  private final Reader reader = new Reader();
  private final Thought thought = new Thought();
  private final Voices voices = new Voices();
  private final Sheet[] sheets = new Sheet[SHEETS];
  private final int[] errors = new int[PARTED + 1];
  private int images = 0;

  public LoanedRound() {
    for (int i = 0; i < SHEETS; i++) {
      sheets[i] = new Sheet();
    }
  }

  // ---- homes, the set

  public int home(int km) {
    if (!isWithin(km, 0, MOST_KM)) {
      return error(BEYOND);
    }
    if (now.round.homes >= MOST_HOMES) {
      return error(FULL);
    }
    return now.round.takeIn(km);
  }

  public int homeIs(int home, int what) {
    Round round = now.round;
    if (!round.has(home)) {
      return error(BEYOND);
    }
    switch (what) {
      case 0: return round.kinds[home];
      case 1: return round.ms[home];
      case 2: return round.heard[home];
      case 3: return round.turns[home];
      case 4: return round.pastAt(home);
      case 5: return round.saidAt(home);
      case 6: return round.behindAt(home);
      case 7: return round.bluntsAt(home);
      default: return error(BEYOND);
    }
  }

  public int become(int home, int km) {
    if (!now.round.has(home) || !isWithin(km, 0, MOST_KM)) {
      return error(BEYOND);
    }
    int before = now.round.kinds[home];
    now.round.kinds[home] = km / 10;
    now.round.ms[home] = km % 10;
    return before;
  }

  public int as(int home, int kind) {
    if (!now.round.has(home) || !isWithin(kind, HOST, WAKE)) {
      return error(BEYOND);
    }
    if (!isOfKind(now.round.kinds[home], kind)) {
      return error(KIND);
    }
    return now.round.ms[home];
  }

  public int past(int home, int v) {
    if (!now.round.has(home) || !isWithin(v, 0, 1)) {
      return error(BEYOND);
    }
    int before = now.round.pastAt(home);
    now.round.putPast(home, v);
    return before;
  }

  public int goes(int home) {
    if (!now.round.has(home)) {
      return error(BEYOND);
    }
    int before = now.round.at;
    now.round.at = home;
    return before;
  }

  public int set(int what, int v) {
    switch (what) {
      case 0: return becomeView(v);
      case 1: return becomeSharp(v);
      case 2: return becomeSteel(v);
      default: return error(BEYOND);
    }
  }

  public int hears(int home, int v) {
    if (!now.round.has(home) || !isWithin(v, 0, MOST_HEARD)) {
      return error(BEYOND);
    }
    int before = now.round.heard[home];
    now.round.heard[home] = v;
    return before;
  }

  // ---- texts

  public int feed(long word, int n) {
    if (!isWithin(n, 1, 8)) {
      return error(BEYOND);
    }
    if (now.tape.size + n > MOST_BYTES) {
      return error(FULL);
    }
    for (int i = 0; i < n; i++) {
      now.tape.add((int) (word >>> (8 * i)) & 255);
    }
    return now.tape.size;
  }

  public int text(int use) {
    if (!isUse(use)) {
      return error(BEYOND);
    }
    int fault = reader.read(now.tape, use);
    now.tape.empty();
    if (fault >= 0) {
      return -10 - fault;
    }
    now.round.lawOf(use).takeSteps(reader.steps);
    return 1;
  }

  public int untell(int use) {
    if (!isUse(use)) {
      return error(BEYOND);
    }
    Row steps = now.round.lawOf(use).steps;
    int before = steps.size > 0 ? 1 : 0;
    steps.empty();
    return before;
  }

  public int law(int use, int a, int b, int c) {
    if (!isUse(use)) {
      return error(BEYOND);
    }
    return now.round.lawOf(use).gives(a, b, c);
  }

  // ---- days

  public int days(int n) {
    if (!isWithin(n, 1, MOST_DAYS)) {
      return error(BEYOND);
    }
    if (now.round.day + n > MOST_DAY) {
      return error(STATE);
    }
    now.round.passDays(n);
    return now.round.view;
  }

  public int loose(int n) {
    if (!isWithin(n, 1, MOST_LOOSE_DAYS)) {
      return error(BEYOND);
    }
    if (now.round.day + n > MOST_DAY) {
      return error(STATE);
    }
    for (int i = 0; i < n; i++) {
      now.round.drawPlace();
      now.round.passDays(1);
    }
    return now.round.view;
  }

  public int day(int v) {
    if (!isWithin(v, 0, MOST_DAY)) {
      return error(BEYOND);
    }
    int before = now.round.day;
    now.round.day = v;
    return before;
  }

  public int seed(int v) {
    int before = now.round.z;
    now.round.z = v;
    return before;
  }

  // ---- what would be

  public int then(int n, int what) {
    if (!isWithin(n, 0, MOST_DAYS) || !isWithin(what, 0, 3)) {
      return error(BEYOND);
    }
    Round ahead = thought.daysOn(now.round, n);
    switch (what) {
      case 0: return ahead.view;
      case 1: return ahead.sharp;
      case 2: return ahead.at;
      default: return ahead.heardTogether();
    }
  }

  public int soonest(int home, int v) {
    if (!now.round.has(home) || !isWithin(v, 0, MOST_HEARD)) {
      return error(BEYOND);
    }
    int days = thought.daysUntil(now.round, home, v);
    return days < 0 ? error(NONE) : days;
  }

  public int startFor(int home, int n, int what) {
    if (!now.round.has(home) || !isWithin(n, 0, MOST_DAYS_SOUGHT) || !isWithin(what, 0, 1)) {
      return error(BEYOND);
    }
    thought.seekStart(now.round, home, n);
    return what == 0 ? thought.which : thought.much;
  }

  public int swapFor(int n, int what) {
    if (!isWithin(n, 0, MOST_DAYS_SOUGHT) || !isWithin(what, 0, 1)) {
      return error(BEYOND);
    }
    thought.seekSwap(now.round, n);
    if (thought.which < 0) {
      return error(NONE);
    }
    return what == 0 ? thought.which : thought.much;
  }

  public int spare(int n, int v) {
    if (!isWithin(n, 0, MOST_DAYS_SOUGHT) || !isWithin(v, 0, MOST_VIEW)) {
      return error(BEYOND);
    }
    int spared = thought.fewestPast(now.round, n, v);
    return spared < 0 ? error(NONE) : spared;
  }

  public int odds(int home, int v, int n, int part) {
    if (!now.round.has(home) || !isWithin(v, 0, MOST_HEARD)
        || !isWithin(n, 0, MOST_DAYS_SOUGHT) || !isWithin(part, 0, 1)) {
      return error(BEYOND);
    }
    int all = MOST_VIEW + 1;
    int likely = thought.likelyViews(now.round, home, v, n);
    int shared = greatestShared(likely, all);
    return part == 0 ? likely / shared : all / shared;
  }

  public int fits(int sheet, int what) {
    if (!isSheet(sheet) || !isWithin(what, 0, 1)) {
      return error(BEYOND);
    }
    if (sheets[sheet].isMissing()) {
      return error(NONE);
    }
    int places = thought.placesThatFit(now.round, sheets[sheet].numbers);
    return what == 0 ? places : Integer.bitCount(places);
  }

  // ---- voices, sheets, images, what is told

  public int voice(int home, int voice, int x) {
    if (!now.round.has(home) || !isWithin(voice, Voices.CUTS, Voices.PARTS)) {
      return error(BEYOND);
    }
    int answer = voices.answer(now.round, home, voice, x);
    return voices.parted ? error(PARTED) : answer;
  }

  public int body(int i) {
    if (!voices.trace.has(i)) {
      return error(NONE);
    }
    return voices.trace.numbers[i];
  }

  public int sheet(int sheet, int bits, int n) {
    if (!isSheet(sheet) || !Sheet.isWidth(bits)) {
      return error(BEYOND);
    }
    if (bits == 0) {
      sheets[sheet].layOut(0, 0);
      return 1;
    }
    if (n < 0) {
      return error(STATE);
    }
    if (n > MOST_NUMBERS) {
      return error(BEYOND);
    }
    sheets[sheet].layOut(bits, n);
    return 1;
  }

  public int put(int sheet, int i, int v) {
    if (!isSheet(sheet)) {
      return error(BEYOND);
    }
    Sheet to = sheets[sheet];
    if (to.isMissing()) {
      return error(NONE);
    }
    if (!to.numbers.has(i)) {
      return error(BEYOND);
    }
    to.numbers.numbers[i] = to.lowestBits(v);
    return 1;
  }

  public int move(int sheet, int i, int other, int j, int n) {
    if (!isSheet(sheet) || !isSheet(other)) {
      return error(BEYOND);
    }
    Sheet from = sheets[sheet];
    Sheet to = sheets[other];
    if (from.isMissing() || to.isMissing()) {
      return error(NONE);
    }
    if (from.bits != to.bits) {
      return error(KIND);
    }
    if (!from.numbers.hasRun(i, n) || !to.numbers.hasRun(j, n)) {
      return error(BEYOND);
    }
    System.arraycopy(from.numbers.numbers, i, to.numbers.numbers, j, n);
    return n;
  }

  public int hearAll(int sheet) {
    if (!isSheet(sheet)) {
      return error(BEYOND);
    }
    if (sheets[sheet].isMissing()) {
      return error(NONE);
    }
    return now.round.takeHeard(sheets[sheet].numbers);
  }

  public int judge(int sheet) {
    if (!isSheet(sheet)) {
      return error(BEYOND);
    }
    if (sheets[sheet].isMissing()) {
      return error(NONE);
    }
    return now.round.rightTurns(sheets[sheet].numbers);
  }

  public int image() {
    kept.takeOver(now);
    images++;
    return images;
  }

  public int restore() {
    if (images == 0) {
      return error(NONE);
    }
    now.takeOver(kept);
    return now.round.day;
  }

  public int tell(int v) {
    if (now.waiting.size >= MOST_WAITING) {
      return error(FULL);
    }
    now.waiting.add(v);
    return now.waiting.size;
  }

  public int check() {
    int right = now.round.rightSaid(now.waiting);
    boolean allRight = right == now.waiting.size;
    now.waiting.empty();
    return allRight ? 0 : 1 + right;
  }

  public int count(int what) {
    Round round = now.round;
    switch (what) {
      case 0: return round.homes;
      case 1: return round.day;
      case 2: return round.at;
      case 3: return round.view;
      case 4: return round.sharp;
      case 5: return round.steel;
      case 6: return round.heardTogether();
      case 7: return round.past;
      case 8: return now.tape.size;
      case 9: return now.waiting.size;
      case 10: return voices.trace.size;
      case 11: return round.z;
      default: return error(BEYOND);
    }
  }

  public int told(int k) {
    if (!isWithin(k, BEYOND, PARTED)) {
      return error(BEYOND);
    }
    return errors[k];
  }

  private int error(int k) {
    errors[k]++;
    return LOW - k;
  }

  private int becomeView(int v) {
    if (!isWithin(v, 0, MOST_VIEW)) {
      return error(BEYOND);
    }
    int before = now.round.view;
    now.round.view = v;
    return before;
  }

  private int becomeSharp(int v) {
    if (!isWithin(v, 0, MOST_SHARP)) {
      return error(BEYOND);
    }
    int before = now.round.sharp;
    now.round.sharp = v;
    return before;
  }

  private int becomeSteel(int v) {
    if (!isWithin(v, 1, MOST_STEEL)) {
      return error(BEYOND);
    }
    int before = now.round.steel;
    now.round.steel = v;
    return before;
  }

  private static boolean isWithin(int v, int least, int most) {
    return v >= least && v <= most;
  }

  private static boolean isUse(int use) {
    return isWithin(use, SAID, BEHIND);
  }

  private static boolean isSheet(int sheet) {
    return isWithin(sheet, 0, SHEETS - 1);
  }

  private static boolean isOfKind(int kind, int wanted) {
    int above = ABOVE[kind];
    return kind == wanted || above == wanted || ABOVE[above] == wanted;
  }

  /** The greatest number that goes into both; of 0 and another, that other one. */
  private static int greatestShared(int some, int all) {
    for (int shared = all; shared > 1; shared--) {
      if (some % shared == 0 && all % shared == 0) {
        return shared;
      }
    }
    return 1;
  }

  /** Numbers behind one another, as many as there is room for. */
  static final class Row {
    final int[] numbers;
    int size = 0;

    Row(int room) {
      numbers = new int[Math.max(0, room)];
    }

    boolean has(int i) {
      return i >= 0 && i < size;
    }

    /** Whether n numbers stand from number i on; told so that no sum can wrap. */
    boolean hasRun(int i, int n) {
      return n >= 0 && n <= size && i >= 0 && i <= size - n;
    }

    void add(int number) {
      if (size < numbers.length) {
        numbers[size] = number;
        size++;
      }
    }

    void empty() {
      size = 0;
    }

    void takeOver(Row other) {
      size = Math.min(other.size, numbers.length);
      System.arraycopy(other.numbers, 0, numbers, 0, size);
    }
  }

  /** All that an IMAGE keeps. */
  static final class State {
    final Round round = new Round();
    final Row tape = new Row(MOST_BYTES);
    final Row waiting = new Row(MOST_WAITING);

    void takeOver(State other) {
      round.takeOver(other.round);
      tape.takeOver(other.tape);
      waiting.takeOver(other.waiting);
    }
  }

  /** What a USE gives: by the steps of its TEXT, or without any by its first NAME alone. */
  static final class Law {
    /** A step below NAME is a number, one from it on a NAME, one below 0 a sign. */
    static final int NAME = 10000;

    final Row steps = new Row(MOST_BYTES);
    private final int[] hold = new int[MOST_BYTES];
    private final int use;

    Law(int use) {
      this.use = use;
    }

    void takeSteps(Row from) {
      steps.takeOver(from);
    }

    int gives(int a, int b, int c) {
      hold[0] = a;
      int top = 0;
      for (int i = 0; i < steps.size; i++) {
        int step = steps.numbers[i];
        if (step >= 0 && top < hold.length) {
          hold[top] = worth(step, a, b, c);
          top++;
        } else if (step == -'!' && top >= 1) {
          hold[top - 1] = hold[top - 1] == 0 ? 1 : 0;
        } else if (top >= 2) {
          top--;
          hold[top - 1] = combine(-step, hold[top - 1], hold[top]);
        }
      }
      return use == SAID ? Math.max(0, Math.min(99, hold[0])) : Math.floorMod(hold[0], 100);
    }

    private static int worth(int step, int a, int b, int c) {
      switch (step) {
        case NAME: return a;
        case NAME + 1: return b;
        case NAME + 2: return c;
        default: return step;
      }
    }

    private static int combine(int sign, int left, int right) {
      switch (sign) {
        case '|': return left != 0 || right != 0 ? 1 : 0;
        case '&': return left != 0 && right != 0 ? 1 : 0;
        case '<': return left < right ? 1 : 0;
        case '=': return left == right ? 1 : 0;
        case '>': return left > right ? 1 : 0;
        case '+': return left + right;
        case '-': return left - right;
        case '*': return left * right;
        case '/': return right == 0 ? 0 : left / right;
        case '%': return right == 0 ? 0 : left % right;
        default: return 0;
      }
    }
  }

  /**
   * Reads THE TAPE as a TEXT into steps that a LAW can take one by one: what a sign works on
   * comes ahead of the sign. One part of the document's grammar is one method here.
   */
  static final class Reader {
    private static final int END = -1;
    private static final int MOST_OPEN = 5;
    private static final int MOST_DIGITS = 4;

    final Row steps = new Row(MOST_BYTES);
    private Row tape = steps;
    private String names = "";
    private int place = 0;
    private int fault = -1;

    /** The FAULT, or -1 if there is none: then the steps are there. */
    int read(Row from, int use) {
      tape = from;
      names = use == SAID ? "svd" : "lsd";
      place = 0;
      fault = -1;
      steps.empty();
      readT(0);
      if (next() != END) {
        fail();
      }
      return fault;
    }

    /** Behind a FAULT nothing comes any more, so that all that is being read ends. */
    private int next() {
      return fault < 0 && tape.has(place) ? tape.numbers[place] : END;
    }

    private void fail() {
      if (fault < 0) {
        fault = place;
      }
    }

    private boolean isNext(char one) {
      return next() == one;
    }

    private void readT(int open) {
      readA(open);
      for (int i = 0; i < MOST_BYTES && isNext('|'); i++) {
        place++;
        readA(open);
        steps.add(-'|');
      }
    }

    private void readA(int open) {
      readB(open);
      for (int i = 0; i < MOST_BYTES && isNext('&'); i++) {
        place++;
        readB(open);
        steps.add(-'&');
      }
    }

    private void readB(int open) {
      readS(open);
      if (isNext('<') || isNext('=') || isNext('>')) {
        int sign = next();
        place++;
        readS(open);
        steps.add(-sign);
      }
    }

    private void readS(int open) {
      readP(open);
      for (int i = 0; i < MOST_BYTES && (isNext('+') || isNext('-')); i++) {
        int sign = next();
        place++;
        readP(open);
        steps.add(-sign);
      }
    }

    private void readP(int open) {
      readQ(open);
      for (int i = 0; i < MOST_BYTES && (isNext('*') || isNext('/') || isNext('%')); i++) {
        int sign = next();
        place++;
        readQ(open);
        steps.add(-sign);
      }
    }

    private void readQ(int open) {
      if (isDigit()) {
        readNumber();
      } else if (nameNext() >= 0) {
        steps.add(Law.NAME + nameNext());
        place++;
      } else if (isNext('!') && open < MOST_OPEN) {
        readNot(open + 1);
      } else if (isNext('(') && open < MOST_OPEN) {
        readInner(open + 1);
      } else {
        fail();
      }
    }

    private void readNot(int open) {
      place++;
      readQ(open);
      steps.add(-'!');
    }

    private void readInner(int open) {
      place++;
      readT(open);
      if (isNext(')')) {
        place++;
      } else {
        fail();
      }
    }

    private void readNumber() {
      int number = 0;
      for (int i = 0; i < MOST_DIGITS && isDigit(); i++) {
        number = number * 10 + next() - '0';
        place++;
      }
      steps.add(number);
    }

    private boolean isDigit() {
      return next() >= '0' && next() <= '9';
    }

    private int nameNext() {
      return next() == END ? -1 : names.indexOf((char) next());
    }
  }

  /** HOMES, THE SET, DAY and what the TEXTS say: as they are, or as they are thought to be. */
  static final class Round {
    final Law said = new Law(SAID);
    final Law behind = new Law(BEHIND);
    final int[] kinds = new int[MOST_HOMES];
    final int[] ms = new int[MOST_HOMES];
    final int[] heard = new int[MOST_HOMES];
    final int[] turns = new int[MOST_HOMES];
    /** Those that are gone PAST, as a set. */
    int past = 0;
    int homes = 0;
    int day = 0;
    int view = 0;
    int sharp = MOST_SHARP;
    int steel = 7;
    int at = 0;
    int z = 1;

    Law lawOf(int use) {
      return use == SAID ? said : behind;
    }

    void takeOver(Round other) {
      said.takeSteps(other.said.steps);
      behind.takeSteps(other.behind.steps);
      System.arraycopy(other.kinds, 0, kinds, 0, MOST_HOMES);
      System.arraycopy(other.ms, 0, ms, 0, MOST_HOMES);
      System.arraycopy(other.heard, 0, heard, 0, MOST_HOMES);
      System.arraycopy(other.turns, 0, turns, 0, MOST_HOMES);
      past = other.past;
      homes = other.homes;
      day = other.day;
      view = other.view;
      sharp = other.sharp;
      steel = other.steel;
      at = other.at;
      z = other.z;
    }

    boolean has(int home) {
      return home >= 0 && home < homes;
    }

    int takeIn(int km) {
      if (homes >= MOST_HOMES) {
        return -1;
      }
      kinds[homes] = km / 10;
      ms[homes] = km % 10;
      homes++;
      return homes - 1;
    }

    int pastAt(int home) {
      return past >> home & 1;
    }

    void putPast(int home, int v) {
      past = past & ~(1 << home) | v << home;
    }

    int saidAt(int home) {
      return said.gives(tellsAt(home), view / 10, day % 8);
    }

    int behindAt(int home) {
      return behind.gives(leavesAt(home), sharp / 10, day % 8);
    }

    private int tellsAt(int home) {
      int friends = view * (1 + sharp) / 100;
      switch (kinds[home]) {
        case AUNT: return view + 10;
        case FRIENDS: return friends;
        case POCOCK: return view > 50 ? 77 : view;
        case BOY: return view + 10 - ms[home];
        case FELLOW: return 2 * friends;
        case WAKE: return 0;
        default: return view;
      }
    }

    private int leavesAt(int home) {
      int m = ms[home];
      int host = view + m;
      int aunt = host / 2 + 5 * m;
      int friends = host + homes;
      switch (kinds[home]) {
        case AUNT: return aunt;
        case FRIENDS: return friends;
        case POCOCK: return day % 2 == 0 ? 77 : host;
        case BOY: return 99 - aunt;
        case FELLOW: return friends + sharp / 10;
        case WAKE: return 0;
        default: return host;
      }
    }

    int bluntsAt(int home) {
      int m = ms[home];
      int host = 3;
      int aunt = host + m / 2;
      switch (kinds[home]) {
        case AUNT: return aunt;
        case POCOCK: return 5;
        case BOY: return aunt - 2;
        case FELLOW: return 2 * host;
        case WAKE: return m > 4 ? host : 0;
        default: return host;
      }
    }

    void passDays(int n) {
      for (int i = 0; i < n; i++) {
        hear();
        carryOn();
      }
    }

    /** As passDays, where nobody asks what the others hear. */
    void passDaysFor(int home, int n) {
      for (int i = 0; i < n; i++) {
        if (at == home) {
          hear();
        }
        carryOn();
      }
    }

    /** What a DAY is to the home itself; it leaves all that the round goes on by as it is. */
    void hear() {
      if (has(at)) {
        heard[at] = Math.min(MOST_HEARD, heard[at] + saidAt(at));
        turns[at] = Math.min(MOST_HEARD, turns[at] + 1);
      }
    }

    /** What a DAY is to THE SET: nothing of it hangs on what was heard. */
    void carryOn() {
      if (has(at)) {
        int left = behindAt(at);
        sharp = Math.max(0, sharp - bluntsAt(at));
        view = left;
        at = nextPlace();
      }
      day++;
      if (steel > 0 && day % steel == 0) {
        sharp = MOST_SHARP;
      }
    }

    private int nextPlace() {
      int place = at;
      for (int i = 1; i < homes; i++) {
        place = place + 1 < homes ? place + 1 : 0;
        if (pastAt(place) == 0) {
          return place;
        }
      }
      return at;
    }

    void drawPlace() {
      if (homes > 0) {
        z = z * 1103515245 + 12345;
        at = (z >>> 8) % homes;
      }
    }

    int heardTogether() {
      int together = 0;
      for (int i = 0; i < homes; i++) {
        together += heard[i];
      }
      return together;
    }

    /** How many numbers became HEARD, up to the first that can't. */
    int takeHeard(Row numbers) {
      int taken = 0;
      while (taken < numbers.size && taken < homes
          && isWithin(numbers.numbers[taken], 0, MOST_HEARD)) {
        heard[taken] = numbers.numbers[taken];
        taken++;
      }
      return taken;
    }

    int rightTurns(Row numbers) {
      int right = 0;
      while (right < numbers.size && right < homes && numbers.numbers[right] == turns[right]) {
        right++;
      }
      return right;
    }

    int rightSaid(Row numbers) {
      int right = 0;
      while (right < numbers.size && right < homes && numbers.numbers[right] == saidAt(right)) {
        right++;
      }
      return right;
    }

    void changePlaces(int one, int other) {
      changeNumbers(kinds, one, other);
      changeNumbers(ms, one, other);
      changeNumbers(heard, one, other);
      changeNumbers(turns, one, other);
      int pastOne = pastAt(one);
      putPast(one, pastAt(other));
      putPast(other, pastOne);
    }

    private static void changeNumbers(int[] numbers, int one, int other) {
      int kept = numbers[one];
      numbers[one] = numbers[other];
      numbers[other] = kept;
    }
  }

  /** What would be: everything is tried on another round, so that the true one stays. */
  static final class Thought {
    private final Round trial = new Round();
    /** What the latest search found, and how much that makes; which is below 0 for nothing. */
    int which = -1;
    int much = 0;

    Round daysOn(Round truth, int n) {
      trial.takeOver(truth);
      trial.passDays(n);
      return trial;
    }

    /** Below 0 if it is not so by the last DAY that is asked. */
    int daysUntil(Round truth, int home, int v) {
      trial.takeOver(truth);
      for (int days = 0; days <= MOST_DAYS; days++) {
        if (trial.heard[home] >= v) {
          return days;
        }
        trial.passDaysFor(home, 1);
      }
      return -1;
    }

    void seekStart(Round truth, int home, int n) {
      which = -1;
      much = -1;
      for (int start = 0; start < truth.homes; start++) {
        trial.takeOver(truth);
        trial.at = start;
        trial.passDaysFor(home, n);
        if (trial.heard[home] > much) {
          which = start;
          much = trial.heard[home];
        }
      }
    }

    void seekSwap(Round truth, int n) {
      which = -1;
      trial.takeOver(truth);
      trial.passDays(n);
      much = trial.heardTogether();
      for (int lesser = 0; lesser < truth.homes; lesser++) {
        for (int greater = lesser + 1; greater < truth.homes; greater++) {
          trial.takeOver(truth);
          trial.changePlaces(lesser, greater);
          trial.passDays(n);
          int together = trial.heardTogether();
          if (together < much) {
            which = 10 * lesser + greater;
            much = together;
          }
        }
      }
    }

    /** The set, or below 0 if there is none; a home that is gone PAST already is never of use. */
    int fewestPast(Round truth, int n, int v) {
      int sets = 1 << truth.homes;
      for (int size = 0; size <= truth.homes; size++) {
        for (int spared = 0; spared < sets; spared++) {
          if (Integer.bitCount(spared) == size && (spared & truth.past) == 0
              && viewWithout(truth, spared, n) <= v) {
            return spared;
          }
        }
      }
      return -1;
    }

    private int viewWithout(Round truth, int spared, int n) {
      trial.takeOver(truth);
      trial.past = truth.past | spared;
      for (int i = 0; i < n; i++) {
        trial.carryOn();
      }
      return trial.view;
    }

    /** By how many a VIEW of now HEARD of a home is v or more n DAYS on. */
    int likelyViews(Round truth, int home, int v, int n) {
      int likely = 0;
      for (int view = 0; view <= MOST_VIEW; view++) {
        trial.takeOver(truth);
        trial.view = view;
        trial.passDaysFor(home, n);
        if (trial.heard[home] >= v) {
          likely++;
        }
      }
      return likely;
    }

    int placesThatFit(Round truth, Row views) {
      int places = 0;
      for (int place = 0; place < truth.homes; place++) {
        if (isFitting(truth, place, views)) {
          places |= 1 << place;
        }
      }
      return places;
    }

    private boolean isFitting(Round truth, int place, Row views) {
      trial.takeOver(truth);
      trial.at = place;
      for (int i = 0; i < views.size; i++) {
        if (trial.view != views.numbers[i]) {
          return false;
        }
        trial.carryOn();
      }
      return true;
    }
  }

  /** VOICES of a home, and THE TRACE of the BODIES that the latest one began. */
  static final class Voices {
    static final int CUTS = 0;
    static final int SAYS = 1;
    static final int STEELS = 2;
    static final int PARTS = 3;
    private static final int VOICES = 4;
    /** The document's deepest chain of BODIES has 6. */
    private static final int MOST_DEEP = 10;
    /** For each KIND the numbers of its own BODIES, by voice; 0 where it has none. */
    private static final int[] BODIES = {
      10, 11, 12, 13,
      20, 0, 0, 21,
      0, 30, 0, 0,
      0, 0, 40, 0,
      50, 0, 51, 0,
      0, 60, 0, 0,
      70, 71, 0, 0,
    };

    final Row trace = new Row(MOST_TRACED);
    boolean parted = false;
    private int kind = HOST;
    private int k = 0;
    private int m = 0;

    /** What the voice answers, unless it parted. */
    int answer(Round round, int home, int voice, int x) {
      trace.empty();
      parted = false;
      kind = round.kinds[home];
      k = home;
      m = round.ms[home];
      return speak(voice, kind, x, 0);
    }

    /** The BODY for a voice that the KIND has, or the next above it that has one. */
    private int speak(int voice, int from, int x, int depth) {
      if (parted || depth > MOST_DEEP) {
        return 0;
      }
      int owner = ownerOf(voice, from);
      int body = BODIES[VOICES * owner + voice];
      trace.add(body);
      return workOut(body, ABOVE[owner], x, depth + 1);
    }

    /** What a BODY gives; above is the KIND above its own. */
    private int workOut(int body, int above, int x, int deeper) {
      switch (body) {
        case 10: return x + k;
        case 11: return speak(CUTS, kind, x, deeper) * 2;
        case 12: return speak(SAYS, kind, x, deeper) - m;
        case 13: return part(x);
        case 20: return speak(CUTS, above, x, deeper) - 4;
        case 21: return speak(PARTS, above, x, deeper) + speak(SAYS, kind, 1, deeper);
        case 30: return 0 - speak(SAYS, above, x, deeper);
        case 40: return speak(STEELS, above, x / 2, deeper);
        case 50: return speak(CUTS, above, x, deeper) * 3;
        case 51: return speak(STEELS, above, x, deeper) ^ k;
        case 60: return speak(SAYS, above, x + 1, deeper);
        case 70: return 9;
        case 71: return speak(SAYS, above, x, deeper) + m;
        default: return 0;
      }
    }

    /** HOST, which all stand under by two steps at most, has a BODY for every voice. */
    private static int ownerOf(int voice, int from) {
      int owner = from;
      for (int i = 0; i < 2 && BODIES[VOICES * owner + voice] == 0; i++) {
        owner = ABOVE[owner];
      }
      return owner;
    }

    private int part(int x) {
      if (m == k) {
        parted = true;
        return 0;
      }
      return x / (m - k);
    }
  }

  /** A row of numbers that are so many bits wide; of no bits, if it is missing. */
  static final class Sheet {
    final Row numbers = new Row(MOST_NUMBERS);
    int bits = 0;

    static boolean isWidth(int bits) {
      return bits == 0 || bits == 8 || bits == 16 || bits == 32;
    }

    boolean isMissing() {
      return bits == 0;
    }

    void layOut(int width, int n) {
      bits = width;
      numbers.empty();
      for (int i = 0; i < n && i < MOST_NUMBERS; i++) {
        numbers.add(0);
      }
    }

    int lowestBits(int v) {
      switch (bits) {
        case 8: return (byte) v;
        case 16: return (short) v;
        default: return v;
      }
    }
  }
}
