import java.util.ArrayList;
import java.util.List;
import java.util.Map;
import java.util.TreeMap;

/**
 * The document written down once more, in the plainest way and as differently from the class as
 * may be: homes are objects of classes, every thought is a copy of the world that really goes on.
 */
final class PlainModel {
  private static final Class<?>[] KINDS = {Host.class, Aunt.class, Friends.class, Pocock.class,
      Boy.class, Fellow.class, Wake.class};

  /** An ERROR, by its number below LOW. */
  static final class Refusal extends RuntimeException {
    private static final long serialVersionUID = 1L;
    final int k;

    Refusal(int k) {
      super(null, null, false, false);
      this.k = k;
    }
  }

  static class Host implements Cloneable {
    int m;
    int heard;
    int turns;
    boolean past;

    int tells(World w) {
      return w.view;
    }

    int leaves(World w) {
      return w.view + m;
    }

    int blunts() {
      return 3;
    }

    int cuts(Speech s, int x) {
      s.bodies.add(10);
      return x + s.k;
    }

    int says(Speech s, int x) {
      s.bodies.add(11);
      return cuts(s, x) * 2;
    }

    int steels(Speech s, int x) {
      s.bodies.add(12);
      return says(s, x) - m;
    }

    int parts(Speech s, int x) {
      s.bodies.add(13);
      if (m - s.k == 0) {
        throw new Refusal(6);
      }
      return x / (m - s.k);
    }

    @Override
    protected Host clone() {
      try {
        return (Host) super.clone();
      } catch (CloneNotSupportedException e) {
        throw new IllegalStateException(e);
      }
    }
  }

  static class Aunt extends Host {
    @Override
    int tells(World w) {
      return super.tells(w) + 10;
    }

    @Override
    int leaves(World w) {
      return super.leaves(w) / 2 + 5 * m;
    }

    @Override
    int blunts() {
      return super.blunts() + m / 2;
    }

    @Override
    int cuts(Speech s, int x) {
      s.bodies.add(20);
      return super.cuts(s, x) - 4;
    }

    @Override
    int parts(Speech s, int x) {
      s.bodies.add(21);
      return super.parts(s, x) + says(s, 1);
    }
  }

  static class Friends extends Host {
    @Override
    int tells(World w) {
      return super.tells(w) * (w.sharp + 1) / 100;
    }

    @Override
    int leaves(World w) {
      return super.leaves(w) + w.homes.size();
    }

    @Override
    int says(Speech s, int x) {
      s.bodies.add(30);
      return 0 - super.says(s, x);
    }
  }

  static class Pocock extends Host {
    @Override
    int tells(World w) {
      return w.view > 50 ? 77 : super.tells(w);
    }

    @Override
    int leaves(World w) {
      return w.day % 2 == 0 ? 77 : super.leaves(w);
    }

    @Override
    int blunts() {
      return 5;
    }

    @Override
    int steels(Speech s, int x) {
      s.bodies.add(40);
      return super.steels(s, x / 2);
    }
  }

  static class Boy extends Aunt {
    @Override
    int tells(World w) {
      return super.tells(w) - m;
    }

    @Override
    int leaves(World w) {
      return 99 - super.leaves(w);
    }

    @Override
    int blunts() {
      return super.blunts() - 2;
    }

    @Override
    int cuts(Speech s, int x) {
      s.bodies.add(50);
      return super.cuts(s, x) * 3;
    }

    @Override
    int steels(Speech s, int x) {
      s.bodies.add(51);
      return super.steels(s, x) ^ s.k;
    }
  }

  static class Fellow extends Friends {
    @Override
    int tells(World w) {
      return 2 * super.tells(w);
    }

    @Override
    int leaves(World w) {
      return super.leaves(w) + w.sharp / 10;
    }

    @Override
    int blunts() {
      return 2 * super.blunts();
    }

    @Override
    int says(Speech s, int x) {
      s.bodies.add(60);
      return super.says(s, x + 1);
    }
  }

  static class Wake extends Host {
    @Override
    int tells(World w) {
      return 0;
    }

    @Override
    int leaves(World w) {
      return 0;
    }

    @Override
    int blunts() {
      return m > 4 ? super.blunts() : 0;
    }

    @Override
    int cuts(Speech s, int x) {
      s.bodies.add(70);
      return 9;
    }

    @Override
    int says(Speech s, int x) {
      s.bodies.add(71);
      return super.says(s, x) + m;
    }
  }

  static final class Speech {
    final int k;
    final List<Integer> bodies = new ArrayList<>();

    Speech(int k) {
      this.k = k;
    }
  }

  /** All that an IMAGE keeps. */
  static final class World {
    int day = 0;
    int view = 0;
    int sharp = 99;
    int steel = 7;
    int at = 0;
    int z = 1;
    List<Host> homes = new ArrayList<>();
    String[] texts = new String[2];
    String tape = "";
    List<Integer> waiting = new ArrayList<>();

    World copy() {
      World w = new World();
      w.day = day;
      w.view = view;
      w.sharp = sharp;
      w.steel = steel;
      w.at = at;
      w.z = z;
      for (Host home : homes) {
        w.homes.add(home.clone());
      }
      w.texts = texts.clone();
      w.tape = tape;
      w.waiting = new ArrayList<>(waiting);
      return w;
    }

    int gives(int use, int a, int b, int c) {
      int raw = a;
      if (texts[use] != null) {
        try {
          raw = PlainText.worth(texts[use], names(use, a, b, c));
        } catch (PlainText.NoText e) {
          throw new IllegalStateException(e);
        }
      }
      if (use == 0) {
        return raw < 0 ? 0 : raw > 99 ? 99 : raw;
      }
      int rest = raw % 100;
      return rest < 0 ? rest + 100 : rest;
    }

    int said(int home) {
      return gives(0, homes.get(home).tells(this), view / 10, day % 8);
    }

    int behind(int home) {
      return gives(1, homes.get(home).leaves(this), sharp / 10, day % 8);
    }

    void goesBy() {
      if (!homes.isEmpty()) {
        Host home = homes.get(at);
        int said = said(at);
        int behind = behind(at);
        int blunts = home.blunts();
        home.heard = Math.min(9999, home.heard + said);
        home.turns = Math.min(9999, home.turns + 1);
        view = behind;
        sharp = Math.max(0, sharp - blunts);
        int next = (at + 1) % homes.size();
        while (next != at && homes.get(next).past) {
          next = (next + 1) % homes.size();
        }
        at = next;
      }
      day++;
      if (day % steel == 0) {
        sharp = 99;
      }
    }

    World on(int n) {
      World w = copy();
      for (int i = 0; i < n; i++) {
        w.goesBy();
      }
      return w;
    }

    int together() {
      return homes.stream().mapToInt(home -> home.heard).sum();
    }
  }

  private World world = new World();
  private World image = null;
  private int images = 0;
  private List<Integer> trace = new ArrayList<>();
  private final List<List<Integer>> sheets = new ArrayList<>();
  private final int[] bits = new int[4];
  private final int[] told = new int[7];
  private int refusal = 0;

  PlainModel() {
    for (int i = 0; i < 4; i++) {
      sheets.add(null);
    }
  }

  static Map<Character, Integer> names(int use, int a, int b, int c) {
    Map<Character, Integer> names = new TreeMap<>();
    names.put(use == 0 ? 's' : 'l', a);
    names.put(use == 0 ? 'v' : 's', b);
    names.put('d', c);
    return names;
  }

  /** The act's answer, an ERROR counted. */
  int answer(String act, long[] args) {
    refusal = 0;
    try {
      return act(act, args);
    } catch (Refusal refused) {
      refusal = refused.k;
      told[refusal]++;
      return -1000000000 - refusal;
    }
  }

  /** Which ERROR the latest answer was, 0 if it was none. */
  int refusal() {
    return refusal;
  }

  private int act(String act, long[] args) {
    int a = args.length > 0 ? (int) args[0] : 0;
    int b = args.length > 1 ? (int) args[1] : 0;
    int c = args.length > 2 ? (int) args[2] : 0;
    int d = args.length > 3 ? (int) args[3] : 0;
    int e = args.length > 4 ? (int) args[4] : 0;
    switch (act) {
      case "home": return home(a);
      case "homeIs": return homeIs(a, b);
      case "become": return become(a, b);
      case "as": return as(a, b);
      case "past": return past(a, b);
      case "goes": return goes(a);
      case "set": return set(a, b);
      case "hears": return hears(a, b);
      case "feed": return feed(args[0], b);
      case "text": return text(a);
      case "untell": return untell(a);
      case "law": return law(a, b, c, d);
      case "days": return days(a, 60, false);
      case "loose": return days(a, 30, true);
      case "day": return day(a);
      case "seed": return seed(a);
      case "then": return then(a, b);
      case "soonest": return soonest(a, b);
      case "startFor": return startFor(a, b, c);
      case "swapFor": return swapFor(a, b);
      case "spare": return spare(a, b);
      case "odds": return odds(a, b, c, d);
      case "fits": return fits(a, b);
      case "voice": return voice(a, b, c);
      case "body": return body(a);
      case "sheet": return sheet(a, b, c);
      case "put": return put(a, b, c);
      case "move": return move(a, b, c, d, e);
      case "hearAll": return hearAll(a);
      case "judge": return judge(a);
      case "image": return image();
      case "restore": return restore();
      case "tell": return tell(a);
      case "check": return check();
      case "count": return count(a);
      case "told": return told(a);
      default: throw new IllegalStateException(act);
    }
  }

  private static void within(int v, int least, int most) {
    if (v < least || v > most) {
      throw new Refusal(1);
    }
  }

  private static void refuseIf(boolean so, int k) {
    if (so) {
      throw new Refusal(k);
    }
  }

  private Host at(int home) {
    within(home, 0, world.homes.size() - 1);
    return world.homes.get(home);
  }

  private List<Integer> numbersOf(int sheet) {
    within(sheet, 0, 3);
    refuseIf(sheets.get(sheet) == null, 2);
    return sheets.get(sheet);
  }

  private static Host make(int km) {
    Host[] all = {new Host(), new Aunt(), new Friends(), new Pocock(), new Boy(), new Fellow(),
        new Wake()};
    Host home = all[km / 10];
    home.m = km % 10;
    return home;
  }

  private static int kindOf(Host home) {
    return List.of(KINDS).indexOf(home.getClass());
  }

  private int home(int km) {
    within(km, 0, 69);
    refuseIf(world.homes.size() == 8, 4);
    world.homes.add(make(km));
    return world.homes.size() - 1;
  }

  private int homeIs(int home, int what) {
    Host one = at(home);
    within(what, 0, 7);
    int[] all = {kindOf(one), one.m, one.heard, one.turns, one.past ? 1 : 0, world.said(home),
        world.behind(home), one.blunts()};
    return all[what];
  }

  private int become(int home, int km) {
    Host before = at(home);
    within(km, 0, 69);
    Host then = make(km);
    then.heard = before.heard;
    then.turns = before.turns;
    then.past = before.past;
    world.homes.set(home, then);
    return kindOf(before);
  }

  private int as(int home, int kind) {
    Host one = at(home);
    within(kind, 0, 6);
    refuseIf(!KINDS[kind].isInstance(one), 5);
    return one.m;
  }

  private int past(int home, int v) {
    Host one = at(home);
    within(v, 0, 1);
    int before = one.past ? 1 : 0;
    one.past = v == 1;
    return before;
  }

  private int goes(int home) {
    at(home);
    int before = world.at;
    world.at = home;
    return before;
  }

  private int set(int what, int v) {
    within(what, 0, 2);
    within(v, what == 2 ? 1 : 0, what == 2 ? 40 : 99);
    int before = what == 0 ? world.view : what == 1 ? world.sharp : world.steel;
    world.view = what == 0 ? v : world.view;
    world.sharp = what == 1 ? v : world.sharp;
    world.steel = what == 2 ? v : world.steel;
    return before;
  }

  private int hears(int home, int v) {
    Host one = at(home);
    within(v, 0, 9999);
    int before = one.heard;
    one.heard = v;
    return before;
  }

  private int feed(long word, int n) {
    within(n, 1, 8);
    refuseIf(world.tape.length() + n > 60, 4);
    for (int i = 0; i < n; i++) {
      world.tape += (char) (word & 0xFF);
      word >>= 8;
    }
    return world.tape.length();
  }

  private int text(int use) {
    within(use, 0, 1);
    String bytes = world.tape;
    world.tape = "";
    int fault = PlainText.fault(bytes, names(use, 0, 0, 0));
    if (fault >= 0) {
      return -10 - fault;
    }
    world.texts[use] = bytes;
    return 1;
  }

  private int untell(int use) {
    within(use, 0, 1);
    int before = world.texts[use] == null ? 0 : 1;
    world.texts[use] = null;
    return before;
  }

  private int law(int use, int a, int b, int c) {
    within(use, 0, 1);
    return world.gives(use, a, b, c);
  }

  private int days(int n, int most, boolean loose) {
    within(n, 1, most);
    refuseIf(world.day + n > 9999, 3);
    for (int i = 0; i < n; i++) {
      if (loose && !world.homes.isEmpty()) {
        world.z = world.z * 1103515245 + 12345;
        world.at = (world.z >>> 8) % world.homes.size();
      }
      world.goesBy();
    }
    return world.view;
  }

  private int day(int v) {
    within(v, 0, 9999);
    int before = world.day;
    world.day = v;
    return before;
  }

  private int seed(int v) {
    int before = world.z;
    world.z = v;
    return before;
  }

  private int then(int n, int what) {
    within(n, 0, 60);
    within(what, 0, 3);
    World w = world.on(n);
    return new int[] {w.view, w.sharp, w.at, w.together()}[what];
  }

  private int soonest(int home, int v) {
    at(home);
    within(v, 0, 9999);
    World w = world.copy();
    for (int n = 0; n <= 60; n++) {
      if (w.homes.get(home).heard >= v) {
        return n;
      }
      w.goesBy();
    }
    throw new Refusal(2);
  }

  private int startFor(int home, int n, int what) {
    at(home);
    within(n, 0, 40);
    within(what, 0, 1);
    int[] heard = new int[world.homes.size()];
    int best = 0;
    for (int start = 0; start < heard.length; start++) {
      World w = world.copy();
      w.at = start;
      heard[start] = w.on(n).homes.get(home).heard;
      best = heard[start] > heard[best] ? start : best;
    }
    return what == 0 ? best : heard[best];
  }

  private int swapFor(int n, int what) {
    within(n, 0, 40);
    within(what, 0, 1);
    TreeMap<Integer, Integer> firstOf = new TreeMap<>();
    for (int i = 0; i < world.homes.size(); i++) {
      for (int j = i + 1; j < world.homes.size(); j++) {
        World w = world.copy();
        w.homes.set(i, world.homes.get(j).clone());
        w.homes.set(j, world.homes.get(i).clone());
        firstOf.putIfAbsent(w.on(n).together(), 10 * i + j);
      }
    }
    refuseIf(firstOf.isEmpty() || firstOf.firstKey() >= world.on(n).together(), 2);
    return what == 0 ? firstOf.firstEntry().getValue() : firstOf.firstKey();
  }

  private int spare(int n, int v) {
    within(n, 0, 40);
    within(v, 0, 99);
    int best = -1;
    for (int spared = 0; spared < 1 << world.homes.size(); spared++) {
      World w = world.copy();
      for (int i = 0; i < w.homes.size(); i++) {
        w.homes.get(i).past |= (spared >> i & 1) == 1;
      }
      if (w.on(n).view <= v
          && (best < 0 || Integer.bitCount(spared) < Integer.bitCount(best))) {
        best = spared;
      }
    }
    refuseIf(best < 0, 2);
    return best;
  }

  private int odds(int home, int v, int n, int part) {
    at(home);
    within(v, 0, 9999);
    within(n, 0, 40);
    within(part, 0, 1);
    int above = 0;
    for (int view = 0; view < 100; view++) {
      World w = world.copy();
      w.view = view;
      above += w.on(n).homes.get(home).heard >= v ? 1 : 0;
    }
    int below = 100;
    for (int by : new int[] {2, 2, 5, 5}) {
      if (above % by == 0 && below % by == 0) {
        above /= by;
        below /= by;
      }
    }
    return part == 0 ? above : below;
  }

  private int fits(int sheet, int what) {
    within(sheet, 0, 3);
    within(what, 0, 1);
    List<Integer> views = numbersOf(sheet);
    int set = 0;
    for (int start = 0; start < world.homes.size(); start++) {
      World w = world.copy();
      w.at = start;
      boolean fits = true;
      for (int view : views) {
        fits &= w.view == view;
        w.goesBy();
      }
      set += fits ? 1 << start : 0;
    }
    return what == 0 ? set : Integer.bitCount(set);
  }

  private int voice(int home, int voice, int x) {
    Host one = at(home);
    within(voice, 0, 3);
    Speech s = new Speech(home);
    trace = s.bodies;
    switch (voice) {
      case 0: return one.cuts(s, x);
      case 1: return one.says(s, x);
      case 2: return one.steels(s, x);
      default: return one.parts(s, x);
    }
  }

  private int body(int i) {
    refuseIf(i < 0 || i >= trace.size(), 2);
    return trace.get(i);
  }

  private int sheet(int sheet, int width, int n) {
    within(sheet, 0, 3);
    refuseIf(!List.of(0, 8, 16, 32).contains(width), 1);
    if (width == 0) {
      sheets.set(sheet, null);
      return 1;
    }
    refuseIf(n < 0, 3);
    within(n, 0, 24);
    List<Integer> numbers = new ArrayList<>();
    for (int i = 0; i < n; i++) {
      numbers.add(0);
    }
    sheets.set(sheet, numbers);
    bits[sheet] = width;
    return 1;
  }

  private int put(int sheet, int i, int v) {
    List<Integer> numbers = numbersOf(sheet);
    within(i, 0, numbers.size() - 1);
    numbers.set(i, v << 32 - bits[sheet] >> 32 - bits[sheet]);
    return 1;
  }

  private int move(int sheet, int i, int other, int j, int n) {
    within(sheet, 0, 3);
    within(other, 0, 3);
    List<Integer> from = new ArrayList<>(numbersOf(sheet));
    List<Integer> to = numbersOf(other);
    refuseIf(bits[sheet] != bits[other], 5);
    refuseIf(n < 0 || i < 0 || j < 0, 1);
    refuseIf((long) i + n > from.size() || (long) j + n > to.size(), 1);
    for (int at = 0; at < n; at++) {
      to.set(j + at, from.get(i + at));
    }
    return n;
  }

  private int hearAll(int sheet) {
    List<Integer> numbers = numbersOf(sheet);
    int i = 0;
    for (; i < Math.min(numbers.size(), world.homes.size()); i++) {
      if (numbers.get(i) < 0 || numbers.get(i) > 9999) {
        break;
      }
      world.homes.get(i).heard = numbers.get(i);
    }
    return i;
  }

  private int judge(int sheet) {
    List<Integer> numbers = numbersOf(sheet);
    int i = 0;
    while (i < Math.min(numbers.size(), world.homes.size())
        && numbers.get(i) == world.homes.get(i).turns) {
      i++;
    }
    return i;
  }

  private int image() {
    image = world.copy();
    return ++images;
  }

  private int restore() {
    refuseIf(image == null, 2);
    world = image.copy();
    return world.day;
  }

  private int tell(int v) {
    refuseIf(world.waiting.size() == 24, 4);
    world.waiting.add(v);
    return world.waiting.size();
  }

  private int check() {
    List<Integer> told = world.waiting;
    world.waiting = new ArrayList<>();
    for (int i = 0; i < told.size(); i++) {
      if (i >= world.homes.size() || world.said(i) != told.get(i)) {
        return 1 + i;
      }
    }
    return 0;
  }

  private int count(int what) {
    within(what, 0, 11);
    int past = 0;
    for (int i = 0; i < world.homes.size(); i++) {
      past += world.homes.get(i).past ? 1 << i : 0;
    }
    return new int[] {world.homes.size(), world.day, world.at, world.view, world.sharp,
        world.steel, world.together(), past, world.tape.length(), world.waiting.size(),
        Math.min(30, trace.size()), world.z}[what];
  }

  private int told(int k) {
    within(k, 1, 6);
    return told[k];
  }
}
