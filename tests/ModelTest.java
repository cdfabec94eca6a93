import java.util.ArrayDeque;
import java.util.ArrayList;
import java.util.Arrays;
import java.util.List;
import java.util.Random;

// Random runs against a second reading of the document, written apart from the
// class: kinds as Java classes, worlds copied whole, texts worked out as read.
public final class ModelTest {
  private static final int LOW = -1000000;
  private static final int RUNS = 1500;
  private static final int CALLS = 512;

  public static void main(String[] args) {
    int wrong = 0;
    for (int run = 0; run < RUNS && wrong < 10; run++) {
      wrong += run(run) ? 0 : 1;
    }
    System.out.println(wrong == 0 ? "all runs are alike" : wrong + " runs are not alike");
    if (wrong != 0) {
      System.exit(1);
    }
  }

  private static boolean run(int seed) {
    LoudMarket x = new LoudMarket();
    Model model = new Model();
    Calls calls = new Calls(new Random(seed), x, model);
    List<String> said = new ArrayList<>();
    for (int i = 0; i < CALLS; i++) {
      calls.next();
      said.add(calls.name + " " + Arrays.toString(calls.args) + " answered " + calls.got);
      if (calls.got != calls.want) {
        System.out.println("run " + seed + ", call " + i + ": due is " + calls.want);
        for (String line : said.subList(Math.max(0, i - 12), i + 1)) {
          System.out.println("  " + line);
        }
        return false;
      }
    }
    return true;
  }

  // ---- the calls of a run

  private static final class Calls {
    private static final String[] NAMES = {
      "ground", "stand", "rule", "far", "place", "placeIs", "as", "set", "worth", "feed", "text",
      "untell", "weeks", "coins", "seed", "moves", "then", "thenPlace", "whose", "comes", "least",
      "hush", "best", "beside", "round", "share", "voice", "body", "sheet", "put", "move", "voices",
      "judge", "image", "restore", "tell", "check", "count", "told"};
    private final Random random;
    private final LoudMarket x;
    private final Model model;
    private final ArrayDeque<long[]> waiting = new ArrayDeque<>();
    String name = "";
    long[] args = {};
    long got;
    long want;

    Calls(Random random, LoudMarket x, Model model) {
      this.random = random;
      this.x = x;
      this.model = model;
    }

    private int below(int n) {
      return random.nextInt(n);
    }

    /** Mostly 0 .. n - 1, now and then one beside or far from it. */
    private int in(int n) {
      int luck = below(60);
      if (luck == 0) return -1;
      if (luck == 1) return n;
      if (luck == 2) return random.nextInt();
      return below(n);
    }

    private int cell() {
      return below(3) == 0 ? in(80) : 10 * (3 + below(4)) + 2 + below(6);
    }

    private int place() {
      return model.now.places.isEmpty() ? in(8) : in(model.now.places.size());
    }

    private int number() {
      switch (below(6)) {
        case 0: return random.nextInt();
        case 1: return Integer.MIN_VALUE;
        case 2: return below(100) + (below(3) - 1) * 65536;
        default: return below(120) - 10;
      }
    }

    private String sentence() {
      String signs = below(2) == 0 ? "fvhgw" : "shg";
      StringBuilder text = new StringBuilder();
      sentence(text, signs, 3);
      if (below(4) == 0 && text.length() > 0) {
        text.setCharAt(below(text.length()), "fvhgws019+-*/%|&<=>!()x \u00ff".charAt(below(25)));
      }
      if (below(12) == 0) text.setLength(below(text.length() + 1));
      return text.substring(0, Math.min(60, text.length()));
    }

    private void sentence(StringBuilder text, String names, int depth) {
      int luck = below(depth > 0 ? 8 : 4);
      if (luck < 2) text.append(names.charAt(below(names.length())));
      else if (luck < 4) text.append(below(below(2) == 0 ? 10 : 10000));
      else if (luck == 4) { text.append('!'); sentence(text, names, depth - 1); }
      else if (luck == 5) { text.append('('); sentence(text, names, depth - 1); text.append(')'); }
      else {
        sentence(text, names, depth - 1);
        text.append("+-*/%|&<=>".charAt(below(10)));
        sentence(text, names, depth - 1);
      }
    }

    private void planText() {
      String text = sentence();
      for (int i = 0; i < text.length(); i += 8) {
        int n = Math.min(8, text.length() - i);
        long word = random.nextLong() << 8 * (n - 1) << 8;
        for (int k = 0; k < n; k++) word |= (long) text.charAt(i + k) << 8 * k;
        waiting.add(new long[] {9, word, n});
      }
      waiting.add(new long[] {10, below(12) == 0 ? in(2) : text.indexOf('s') >= 0 ? 1 : 0});
    }

    private void planJudge() {
      int sheet = below(4);
      int n = below(25);
      waiting.add(new long[] {28, sheet, 8 << below(3), n});
      for (int i = 0; i < n && i < 9; i++) {
        int at = model.now.ahead(i + 1).market;
        waiting.add(new long[] {29, sheet, i, below(20) == 0 ? cell() : at});
      }
      waiting.add(new long[] {32, sheet});
    }

    private void planCheck() {
      int n = model.now.places.size() + below(3) - 1;
      for (int i = 0; i < n; i++) {
        boolean right = i < model.now.places.size() && below(12) > 0;
        waiting.add(new long[] {35, right ? model.now.shout(model.now.places.get(i)) : number()});
      }
      waiting.add(new long[] {36});
    }

    void next() {
      if (waiting.isEmpty()) {
        int luck = below(30);
        if (luck == 0) planText();
        else if (luck == 1) planJudge();
        else if (luck == 2) planCheck();
        else waiting.add(one());
      }
      if (waiting.isEmpty()) waiting.add(one());
      long[] call = waiting.remove();
      name = NAMES[(int) call[0]];
      args = Arrays.copyOfRange(call, 1, call.length);
      perform((int) call[0], args);
    }

    private long[] one() {
      int luck = below(60);
      int which = luck < 39 ? luck : new int[] {4, 5, 5, 7, 7, 12, 12, 12, 17, 17, 20, 21, 23, 24,
          26, 26, 26, 27, 0, 0, 14}[luck - 39];
      switch (which) {
        case 0: return new long[] {0, cell(), in(3)};
        case 1: return new long[] {1, cell()};
        case 2: int what = in(3); return new long[] {2, what, what == 1 ? in(100) % 12 : in(2)};
        case 3: return new long[] {3, in(80), in(80)};
        case 4: return new long[] {4, in(700), cell(), in(100)};
        case 5: return new long[] {5, place(), in(10)};
        case 6: return new long[] {6, place(), in(7)};
        case 7: return set();
        case 8: return new long[] {8, place(), cell()};
        case 9: return new long[] {9, random.nextLong(), in(9)};
        case 10: return new long[] {10, in(2)};
        case 11: return new long[] {11, in(2)};
        case 12: return new long[] {12, below(3) == 0 ? in(61) : 1 + below(4)};
        case 13: return new long[] {13, below(3) == 0 ? in(61) : 1 + below(4)};
        case 14: return new long[] {14, number()};
        case 16: return new long[] {16, in(61)};
        case 17: return new long[] {17, in(61), place(), in(10)};
        case 19: return new long[] {19, cell(), in(61)};
        case 20: return new long[] {20, place(), below(2) == 0 ? in(61) : below(12)};
        case 21: return new long[] {21, place(), in(61)};
        case 22: return new long[] {22, in(2)};
        case 23: return new long[] {23, place(), in(21)};
        case 24: return new long[] {24, in(2)};
        case 25: return new long[] {25, in(2)};
        case 26: return new long[] {26, place(), in(4), number()};
        case 27: return new long[] {27, in(14)};
        case 28: return new long[] {28, in(4), below(9) == 0 ? in(33) : 8 * below(5), in(25)};
        case 29: return new long[] {29, in(4), in(24), number()};
        case 30: return new long[] {30, in(4), in(10), in(4), in(10), in(12)};
        case 31: return new long[] {31, in(4)};
        case 32: return new long[] {32, in(4)};
        case 35: return new long[] {35, number()};
        case 37: return new long[] {37, in(9)};
        case 38: return new long[] {38, 1 + in(6)};
        default: return new long[] {which};
      }
    }

    private long[] set() {
      int what = in(8);
      int[] most = {7, 100, 80, 100, 100, 100, 2, 2};
      int most1 = what >= 0 && what < 8 ? most[what] : 3;
      return new long[] {7, place(), what, what == 2 ? cell() : in(most1)};
    }

    private void perform(int which, long[] a) {
      int[] i = new int[5];
      for (int k = 0; k < a.length; k++) i[k] = (int) a[k];
      try {
        want = model.answer(which, a, i);
      } catch (Model.Refusal refusal) {
        want = LOW - refusal.k;
        model.told[refusal.k]++;
      }
      got = ask(which, a, i);
    }

    private long ask(int which, long[] a, int[] i) {
      switch (which) {
        case 0: return x.ground(i[0], i[1]);
        case 1: return x.stand(i[0]);
        case 2: return x.rule(i[0], i[1]);
        case 3: return x.far(i[0], i[1]);
        case 4: return x.place(i[0], i[1], i[2]);
        case 5: return x.placeIs(i[0], i[1]);
        case 6: return x.as(i[0], i[1]);
        case 7: return x.set(i[0], i[1], i[2]);
        case 8: return x.worth(i[0], i[1]);
        case 9: return x.feed(a[0], i[1]);
        case 10: return x.text(i[0]);
        case 11: return x.untell(i[0]);
        case 12: return x.weeks(i[0]);
        case 13: return x.coins(i[0]);
        case 14: return x.seed(i[0]);
        case 15: return x.moves();
        case 16: return x.then(i[0]);
        case 17: return x.thenPlace(i[0], i[1], i[2]);
        case 18: return x.whose();
        case 19: return x.comes(i[0], i[1]);
        case 20: return x.least(i[0], i[1]);
        case 21: return x.hush(i[0], i[1]);
        case 22: return x.best(i[0]);
        case 23: return x.beside(i[0], i[1]);
        case 24: return x.round(i[0]);
        case 25: return x.share(i[0]);
        case 26: return x.voice(i[0], i[1], i[2]);
        case 27: return x.body(i[0]);
        case 28: return x.sheet(i[0], i[1], i[2]);
        case 29: return x.put(i[0], i[1], i[2]);
        case 30: return x.move(i[0], i[1], i[2], i[3], i[4]);
        case 31: return x.voices(i[0]);
        case 32: return x.judge(i[0]);
        case 33: return x.image();
        case 34: return x.restore();
        case 35: return x.tell(i[0]);
        case 36: return x.check();
        case 37: return x.count(i[0]);
        default: return x.told(i[0]);
      }
    }
  }

  // ---- a place, with a Kind that can be changed

  private static final class Place implements Cloneable {
    Kind kind;
    int kindNumber;
    int number;
    int m;
    int cell;
    int voice;
    int hoarse;
    int good = 20;
    int purse;
    boolean hushed;

    Place copy() {
      try {
        return (Place) clone();
      } catch (CloneNotSupportedException never) {
        throw new IllegalStateException(never);
      }
    }

    int column() { return cell % 10; }
    int row() { return cell / 10; }
  }

  private static class Kind {
    int shout(World w, Place p) { return 0; }
    int calls(Speech s, int x) { s.begins(10); return x + s.p.number; }
    int goes(Speech s, int x) { s.begins(11); return calls(s, x) * 2; }
    int rests(Speech s, int x) { s.begins(12); return goes(s, x) - s.p.m; }
    int pays(Speech s, int x) { s.begins(13); return s.parts(x, s.p.m - s.p.number); }
  }

  private static class Loud extends Kind {
    @Override int shout(World w, Place p) { return w.far(p.cell, w.market) == 0 ? 0 : p.voice - p.hoarse; }
    @Override int calls(Speech s, int x) { s.begins(20); return super.calls(s, x) - 4; }
    @Override int pays(Speech s, int x) { s.begins(21); int a = super.pays(s, x); return a + goes(s, 1); }
  }

  private static final class Hold extends Loud {
    @Override int shout(World w, Place p) { return w.far(p.cell, w.market) > 3 ? 0 : p.voice - p.hoarse; }
    @Override int goes(Speech s, int x) { s.begins(30); return 0 - super.goes(s, x); }
  }

  private static final class League extends Loud {
    @Override int shout(World w, Place p) {
      int sum = super.shout(w, p);
      for (Place other : w.places) {
        if (other.number == p.number || other.hushed || !(other.kind instanceof League)) continue;
        if (w.far(p.cell, other.cell) < 5) sum += p.m;
      }
      return sum;
    }
    @Override int rests(Speech s, int x) { s.begins(40); return super.rests(s, x / 2); }
    @Override int calls(Speech s, int x) { s.begins(41); return super.calls(s, x) ^ s.p.number; }
  }

  private static final class Late extends Loud {
    @Override int shout(World w, Place p) { return (w.weeks - p.m) % 4 == 0 ? super.shout(w, p) : 0; }
    @Override int calls(Speech s, int x) { s.begins(50); return 8; }
  }

  private static final class Told extends Kind {
    @Override int shout(World w, Place p) {
      if (w.texts[0] == null) return p.voice - p.hoarse;
      return Sums.value(w.texts[0], "fvhgw", w.far(p.cell, w.market), p.voice, p.hoarse, p.good, w.weeks);
    }
    @Override int goes(Speech s, int x) { s.begins(60); return super.goes(s, x + 1); }
    @Override int rests(Speech s, int x) { s.begins(61); return super.rests(s, x) * 3; }
  }

  private static final class Ahead extends Loud {
    @Override int shout(World w, Place p) {
      int loud = super.shout(w, p);
      int cost = w.cost(p, Math.max(0, Math.min(99, loud)));
      int there = w.worth(p, w.wouldGo(w.market, p.cell, true));
      return there < w.worth(p, w.market) + cost ? 0 : loud;
    }
    @Override int calls(Speech s, int x) { s.begins(70); return super.calls(s, x) + s.p.m; }
    @Override int pays(Speech s, int x) { s.begins(71); int a = super.pays(s, x); return a - rests(s, 0); }
  }

  private static final class Speech {
    final Place p;
    final List<Integer> trace = new ArrayList<>();
    boolean parted;
    Speech(Place p) { this.p = p; }
    void begins(int body) { if (!parted && trace.size() < 30) trace.add(body); }
    int parts(int x, int by) { parted |= by == 0; return by == 0 ? 0 : x / by; }
  }

  // ---- texts: a FAULT by an automaton, a value by splitting at the weakest sign

  private static final class Sums {
    /** -1, or the first place at which the text can't go on; its length if it ends too early. */
    static int fault(String text, String names) {
      ArrayDeque<Character> open = new ArrayDeque<>();
      ArrayDeque<Boolean> compared = new ArrayDeque<>();
      boolean has = false;
      boolean been = false;
      int digits = 0;
      for (int i = 0; i < text.length(); i++) {
        char c = text.charAt(i);
        boolean digit = c >= '0' && c <= '9';
        if (!has) {
          if (digit || names.indexOf(c) >= 0) {
            has = true;
            digits = digit ? 1 : 4;
          } else if ((c == '!' || c == '(') && open.size() < 5) {
            open.push(c);
            if (c == '(') { compared.push(been); been = false; }
            continue;
          } else {
            return i;
          }
        } else if (digit && digits < 4) {
          digits++;
          continue;
        } else {
          digits = 4;
          while (!open.isEmpty() && open.peek() == '!') open.pop();
          if (c == ')' && !open.isEmpty()) { open.pop(); been = compared.pop(); }
          else if ("|&".indexOf(c) >= 0) { has = false; been = false; }
          else if ("<=>".indexOf(c) >= 0 && !been) { has = false; been = true; }
          else if ("+-*/%".indexOf(c) >= 0) has = false;
          else return i;
        }
      }
      while (!open.isEmpty() && open.peek() == '!' && has) open.pop();
      return has && open.isEmpty() ? -1 : text.length();
    }

    static int value(String text, String names, int... values) {
      for (String signs : new String[] {"|", "&", "<=>", "+-", "*/%"}) {
        int depth = 0;
        for (int i = text.length() - 1; i > 0; i--) {
          char c = text.charAt(i);
          if (c == ')') depth++;
          else if (c == '(') depth--;
          else if (depth == 0 && signs.indexOf(c) >= 0) {
            int a = value(text.substring(0, i), names, values);
            int b = value(text.substring(i + 1), names, values);
            return join(c, a, b);
          }
        }
      }
      char c = text.charAt(0);
      if (c == '!') return value(text.substring(1), names, values) == 0 ? 1 : 0;
      if (c == '(') return value(text.substring(1, text.length() - 1), names, values);
      return Character.isDigit(c) ? Integer.parseInt(text) : values[names.indexOf(c)];
    }

    private static int join(char c, int a, int b) {
      if (c == '|') return (a == 0 ? 0 : 1) | (b == 0 ? 0 : 1);
      if (c == '&') return (a == 0 ? 0 : 1) & (b == 0 ? 0 : 1);
      if (c == '<') return b > a ? 1 : 0;
      if (c == '>') return b < a ? 1 : 0;
      if (c == '=') return a - b == 0 ? 1 : 0;
      if (c == '+') return (int) ((long) a + b);
      if (c == '-') return (int) ((long) a - b);
      if (c == '*') return (int) ((long) a * b);
      if (b == 0) return 0;
      return (int) (c == '/' ? (long) a / b : (long) a % b);
    }
  }

  // ---- a world

  private static final class World {
    int[] ground = new int[80];
    int[] law = {0, 3, 0};
    int market = 44;
    int weeks;
    int z = 1;
    List<Place> places = new ArrayList<>();
    String[] texts = new String[2];
    StringBuilder tape = new StringBuilder();
    List<Integer> waits = new ArrayList<>();

    World copy() {
      World w = new World();
      w.ground = ground.clone();
      w.law = law.clone();
      w.market = market;
      w.weeks = weeks;
      w.z = z;
      for (Place p : places) w.places.add(p.copy());
      w.texts = texts.clone();
      w.tape = new StringBuilder(tape);
      w.waits = new ArrayList<>(waits);
      return w;
    }

    World ahead(int n) {
      World w = copy();
      for (int i = 0; i < n; i++) w.week();
      return w;
    }

    int far(int a, int b) {
      return Math.abs(a % 10 - b % 10) + Math.abs(a / 10 - b / 10);
    }

    int worth(Place p, int cell) {
      if (p.m >= 50 && p.cell == cell) return 0;
      int worth = p.good - far(p.cell, cell) - far(p.cell, cell);
      return worth < 0 ? 0 : worth;
    }

    int shout(Place p) {
      int shout = p.hushed ? 0 : p.kind.shout(this, p);
      return shout < 0 ? 0 : shout > 99 ? 99 : shout;
    }

    int cost(Place p, int shout) {
      if (texts[1] == null) return shout / 3;
      int cost = Sums.value(texts[1], "shg", shout, p.hoarse, p.good);
      return cost < 0 ? 0 : cost > 999 ? 999 : cost;
    }

    int wouldGo(int from, int to, boolean riversStop) {
      int dx = Integer.compare(to % 10, from % 10);
      int dy = Integer.compare(to / 10, from / 10);
      int wide = Math.abs(to % 10 - from % 10);
      int high = Math.abs(to / 10 - from / 10);
      int[] ways = wide < high ? new int[] {10 * dy, dx} : new int[] {dx, 10 * dy};
      for (int way : ways) {
        if (way == 0) continue;
        if (riversStop && ground[from + way] == 1) continue;
        return from + way;
      }
      return from;
    }

    /** -1: none. */
    int loudest(int[] shouts) {
      int best = 0;
      for (int s : shouts) best = Math.max(best, s);
      int who = -1;
      for (int i = 0; i < shouts.length; i++) {
        if (shouts[i] != best || best == 0) continue;
        if (who >= 0) return -1;
        who = i;
      }
      return who;
    }

    int[] shouts() {
      int[] shouts = new int[places.size()];
      for (int i = 0; i < shouts.length; i++) shouts[i] = shout(places.get(i));
      return shouts;
    }

    boolean stuck() {
      return law[2] == 1 && ground[market] == 2 && (weeks & 1) == 1;
    }

    void week() {
      int[] shouts = shouts();
      int who = loudest(shouts);
      if (!stuck()) {
        if (law[0] == 1) pulled(shouts);
        else if (who >= 0) market = wouldGo(market, places.get(who).cell, true);
      }
      for (int i = 0; i < shouts.length; i++) {
        Place p = places.get(i);
        if (shouts[i] == 0) continue;
        p.purse = Math.max(-999999, p.purse - cost(p, shouts[i]));
        p.hoarse = Math.min(99, p.hoarse + shouts[i] / 2);
      }
      ends();
    }

    private void pulled(int[] shouts) {
      int east = 0;
      int west = 0;
      int south = 0;
      int north = 0;
      for (int i = 0; i < shouts.length; i++) {
        Place p = places.get(i);
        if (p.column() > market % 10) east += shouts[i];
        if (p.column() < market % 10) west += shouts[i];
        if (p.row() > market / 10) south += shouts[i];
        if (p.row() < market / 10) north += shouts[i];
      }
      int wide = Math.abs(east - west);
      int high = Math.abs(south - north);
      int to = market;
      if (wide >= high && wide > 0) to += east > west ? 1 : -1;
      else if (high > wide) to += south > north ? 10 : -10;
      if (ground[to] != 1) market = to;
    }

    void coinWeek() {
      z = z * 1103515245 + 12345;
      Place p = places.get((z >>> 8) % places.size());
      if (!stuck()) market = wouldGo(market, p.cell, true);
      ends();
    }

    private void ends() {
      for (Place p : places) {
        p.purse = Math.min(999999, p.purse + worth(p, market));
        p.hoarse = Math.max(0, p.hoarse - law[1]);
      }
      weeks++;
    }

    String looks() {
      StringBuilder looks = new StringBuilder().append(market);
      for (Place p : places) looks.append(' ').append(p.hoarse);
      return looks.append(" in ").append(weeks % 4).toString();
    }
  }

  // ---- what each call is due to answer

  private static final class Model {
    static final class Refusal extends RuntimeException {
      private static final long serialVersionUID = 1L;
      final int k;
      Refusal(int k) { super(null, null, false, false); this.k = k; }
    }

    private static final int BEYOND = 1;
    private static final int NONE = 2;
    private static final int STATE = 3;
    private static final int FULL = 4;
    private static final int KIND = 5;
    private static final int PARTED = 6;
    private static final Kind[] KINDS = {
      new Kind(), new Loud(), new Hold(), new League(), new Late(), new Told(), new Ahead()};

    World now = new World();
    private World image;
    private int images;
    private List<Integer> trace = new ArrayList<>();
    private final int[][] sheets = new int[4][];
    private final int[] bits = new int[4];
    final int[] told = new int[7];

    private static void need(boolean holds, int k) {
      if (!holds) throw new Refusal(k);
    }

    private static void in(int v, int least, int most) {
      need(v >= least && v <= most, BEYOND);
    }

    private static void cell(int v) {
      in(v, 0, 79);
    }

    private Place place(int i) {
      in(i, 0, now.places.size() - 1);
      return now.places.get(i);
    }

    long answer(int which, long[] a, int[] i) {
      if (which < 16) return landPlacesTextsWeeks(which, a, i);
      return which < 26 ? looks(which, i) : rest(which, i);
    }

    private long landPlacesTextsWeeks(int which, long[] a, int[] i) {
      int was;
      switch (which) {
        case 0:
          cell(i[0]);
          in(i[1], 0, 2);
          need(i[1] != 1 || now.market != i[0], STATE);
          was = now.ground[i[0]];
          now.ground[i[0]] = i[1];
          return was;
        case 1:
          cell(i[0]);
          need(now.ground[i[0]] != 1, STATE);
          was = now.market;
          now.market = i[0];
          return was;
        case 2:
          in(i[0], 0, 2);
          in(i[1], 0, i[0] == 1 ? 99 : 1);
          was = now.law[i[0]];
          now.law[i[0]] = i[1];
          return was;
        case 3:
          cell(i[0]);
          cell(i[1]);
          return now.far(i[0], i[1]);
        case 4: return newPlace(i);
        case 5: return is(now, i[0], i[1]);
        case 6:
          Place p = place(i[0]);
          in(i[1], 0, 6);
          need(KINDS[i[1]].getClass().isInstance(p.kind), KIND);
          return p.m;
        case 7: return set(i[0], i[1], i[2]);
        case 8:
          place(i[0]);
          cell(i[1]);
          return now.worth(place(i[0]), i[1]);
        case 9:
          in(i[1], 1, 8);
          need(now.tape.length() + i[1] <= 60, FULL);
          for (int k = 0; k < i[1]; k++) now.tape.append((char) (a[0] >> 8 * k & 255));
          return now.tape.length();
        case 10: return text(i[0]);
        case 11:
          in(i[0], 0, 1);
          was = now.texts[i[0]] == null ? 0 : 1;
          now.texts[i[0]] = null;
          return was;
        case 12:
        case 13:
          in(i[0], 1, 60);
          need(now.weeks <= 9999 - i[0], STATE);
          need(which == 12 || !now.places.isEmpty(), STATE);
          for (int k = 0; k < i[0]; k++) {
            if (which == 12) now.week(); else now.coinWeek();
          }
          return now.market;
        case 14:
          was = now.z;
          now.z = i[0];
          return was;
        default:
          was = 0;
          for (Place house : now.places) {
            if (house.m > 49 || now.worth(house, now.market) >= house.m) continue;
            int to = now.wouldGo(house.cell, now.market, false);
            was += to == house.cell ? 0 : 1;
            house.cell = to;
          }
          return was;
      }
    }

    private int newPlace(int[] i) {
      in(i[0], 0, 699);
      cell(i[1]);
      in(i[2], 0, 99);
      need(now.places.size() < 8, FULL);
      Place p = new Place();
      p.kindNumber = i[0] / 100;
      p.kind = KINDS[p.kindNumber];
      p.number = now.places.size();
      p.m = i[0] % 100;
      p.cell = i[1];
      p.voice = i[2];
      now.places.add(p);
      return p.number;
    }

    private int is(World w, int place, int what) {
      place(place);
      in(what, 0, 9);
      Place p = w.places.get(place);
      return new int[] {p.kindNumber, p.m, p.cell, p.voice, p.hoarse, p.good, p.purse,
        p.hushed ? 1 : 0, w.shout(p), w.worth(p, w.market)}[what];
    }

    private int set(int place, int what, int v) {
      Place p = place(place);
      in(what, 0, 7);
      need(what != 6, BEYOND);
      in(v, 0, new int[] {6, 99, 79, 99, 99, 99, 0, 1}[what]);
      int was = is(now, place, what);
      switch (what) {
        case 0: p.kindNumber = v; p.kind = KINDS[v]; break;
        case 1: p.m = v; break;
        case 2: p.cell = v; break;
        case 3: p.voice = v; break;
        case 4: p.hoarse = v; break;
        case 5: p.good = v; break;
        default: p.hushed = v == 1; break;
      }
      return was;
    }

    private int text(int use) {
      in(use, 0, 1);
      String text = now.tape.toString();
      now.tape.setLength(0);
      int fault = Sums.fault(text, use == 0 ? "fvhgw" : "shg");
      if (fault >= 0) return -10 - fault;
      now.texts[use] = text;
      return 1;
    }

    private long looks(int which, int[] i) {
      switch (which) {
        case 16: in(i[0], 0, 60); return now.ahead(i[0]).market;
        case 17:
          in(i[0], 0, 60);
          place(i[1]);
          in(i[2], 0, 9);
          return is(now.ahead(i[0]), i[1], i[2]);
        case 18:
          int who = now.law[0] == 1 ? -1 : now.loudest(now.shouts());
          need(who >= 0, NONE);
          return who;
        case 19:
          cell(i[0]);
          in(i[1], 0, 60);
          for (int n = 0; n <= i[1]; n++) if (now.ahead(n).market == i[0]) return n;
          throw new Refusal(NONE);
        case 20: return least(i[0], i[1]);
        case 21: return hush(i[0], i[1]);
        case 22: return best(i[0]);
        case 23: return beside(i[0], i[1]);
        case 24: return round(i[0]);
        default:
          in(i[0], 0, 1);
          need(!now.places.isEmpty(), NONE);
          int[] purses = now.places.stream().mapToInt(p -> p.purse).toArray();
          int most = Arrays.stream(purses).max().getAsInt();
          int k = 0;
          while (purses[k] != most) k++;
          return i[0] == 1 ? k : most - Arrays.stream(purses).min().getAsInt();
      }
    }

    private int least(int place, int n) {
      Place p = place(place);
      in(n, 0, 60);
      for (int v = 0; v < 100; v++) {
        World w = now.copy();
        w.places.get(place).voice = v;
        for (int k = 0; k <= n; k++) {
          if (w.market == p.cell) return v;
          w.week();
        }
      }
      throw new Refusal(NONE);
    }

    private int hush(int place, int n) {
      place(place);
      in(n, 0, 60);
      int whom = -1;
      int most = Integer.MIN_VALUE;
      for (Place other : now.places) {
        World w = now.copy();
        w.places.get(other.number).hushed = true;
        int purse = w.ahead(n).places.get(place).purse;
        if (other.number != place && purse > most) {
          most = purse;
          whom = other.number;
        }
      }
      need(whom >= 0, NONE);
      return whom;
    }

    private int best(int what) {
      in(what, 0, 1);
      int most = -1;
      int where = -1;
      for (int cell = 79; cell >= 0; cell--) {
        int at = cell;
        int sum = now.places.stream().mapToInt(p -> now.worth(p, at)).sum();
        if (now.ground[cell] != 1 && sum >= most) {
          most = sum;
          where = cell;
        }
      }
      need(where >= 0, NONE);
      return what == 0 ? where : most;
    }

    private int beside(int place, int n) {
      place(place);
      in(n, 0, 20);
      int most = Integer.MIN_VALUE;
      int where = -1;
      for (int cell = 0; cell < 80; cell++) {
        World w = now.copy();
        w.places.get(place).cell = cell;
        int purse = w.ahead(n).places.get(place).purse;
        if (purse > most) {
          most = purse;
          where = cell;
        }
      }
      return where;
    }

    private int round(int what) {
      in(what, 0, 1);
      List<String> seen = new ArrayList<>();
      World w = now.copy();
      seen.add(w.looks());
      for (int k = 1; k <= 200; k++) {
        w.week();
        int tail = seen.indexOf(w.looks());
        if (tail >= 0) return what == 0 ? tail : k - tail;
        seen.add(w.looks());
      }
      throw new Refusal(NONE);
    }

    private void sheet(int i) {
      in(i, 0, 3);
    }

    private int[] laid(int i) {
      need(sheets[i] != null, NONE);
      return sheets[i];
    }

    private long rest(int which, int[] i) {
      int n = 0;
      switch (which) {
        case 26:
          Speech s = new Speech(place(i[0]));
          in(i[1], 0, 3);
          n = i[1] == 0 ? s.p.kind.calls(s, i[2]) : i[1] == 1 ? s.p.kind.goes(s, i[2])
              : i[1] == 2 ? s.p.kind.rests(s, i[2]) : s.p.kind.pays(s, i[2]);
          trace = s.trace;
          need(!s.parted, PARTED);
          return n;
        case 27:
          need(i[0] >= 0 && i[0] < trace.size(), NONE);
          return trace.get(i[0]);
        case 28:
          sheet(i[0]);
          need(i[1] == 0 || i[1] == 8 || i[1] == 16 || i[1] == 32, BEYOND);
          need(i[1] == 0 || i[2] >= 0, STATE);
          need(i[1] == 0 || i[2] <= 24, BEYOND);
          sheets[i[0]] = i[1] == 0 ? null : new int[i[2]];
          bits[i[0]] = i[1];
          return 1;
        case 29:
          sheet(i[0]);
          in(i[1], 0, laid(i[0]).length - 1);
          laid(i[0])[i[1]] = i[2] << 32 - bits[i[0]] >> 32 - bits[i[0]];
          return 1;
        case 30:
          sheet(i[0]);
          sheet(i[2]);
          laid(i[0]);
          laid(i[2]);
          need(bits[i[0]] == bits[i[2]], KIND);
          need(i[1] >= 0 && i[3] >= 0 && i[4] >= 0, BEYOND);
          need((long) i[1] + i[4] <= laid(i[0]).length, BEYOND);
          need((long) i[3] + i[4] <= laid(i[2]).length, BEYOND);
          int[] were = laid(i[0]).clone();
          for (int k = 0; k < i[4]; k++) laid(i[2])[i[3] + k] = were[i[1] + k];
          return i[4];
        case 31:
          sheet(i[0]);
          for (int v : laid(i[0])) {
            if (v < 0 || v > 99 || n >= now.places.size()) break;
            now.places.get(n++).voice = v;
          }
          return n;
        case 32:
          sheet(i[0]);
          for (int v : laid(i[0])) {
            if (now.ahead(n + 1).market != v) break;
            n++;
          }
          return n;
        default: return imagesAndTold(which, i);
      }
    }

    private long imagesAndTold(int which, int[] i) {
      switch (which) {
        case 33: image = now.copy(); return ++images;
        case 34:
          need(image != null, NONE);
          now = image.copy();
          return now.weeks;
        case 35:
          need(now.waits.size() < 24, FULL);
          now.waits.add(i[0]);
          return now.waits.size();
        case 36:
          List<Integer> due = new ArrayList<>();
          for (int shout : now.shouts()) due.add(shout);
          List<Integer> waits = now.waits;
          now.waits = new ArrayList<>();
          if (waits.equals(due)) return 0;
          int k = 0;
          while (k < due.size() && k < waits.size() && due.get(k).equals(waits.get(k))) k++;
          return 1 + k;
        case 37:
          in(i[0], 0, 8);
          int rivers = (int) Arrays.stream(now.ground).filter(g -> g == 1).count();
          int purses = now.places.stream().mapToInt(p -> p.purse).sum();
          return new int[] {now.places.size(), now.market, now.weeks, rivers, now.tape.length(),
            now.waits.size(), trace.size(), now.z, purses}[i[0]];
        default:
          in(i[0], 1, 6);
          return told[i[0]];
      }
    }
  }
}
