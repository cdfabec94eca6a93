import java.lang.annotation.ElementType;
import java.lang.annotation.Retention;
import java.lang.annotation.RetentionPolicy;
import java.lang.annotation.Target;
import java.lang.reflect.InvocationTargetException;
import java.lang.reflect.Method;
import java.nio.file.Files;
import java.nio.file.Path;
import java.util.ArrayList;
import java.util.Arrays;
import java.util.Comparator;
import java.util.List;

// What the tests of single sentences share: each names its promise and bears
// the sentence of DOC.md that it asks for, word by word.
public class Sentences {
  @Retention(RetentionPolicy.RUNTIME)
  @Target(ElementType.METHOD)
  protected @interface Asks {
    String of();

    String says();
  }

  /** A call, or some, of which the answer of the last counts. */
  protected interface Act {
    long on(LoudMarket x);
  }

  /** An object as it is ahead of a call; each time a new one, alike to the others. */
  protected interface Made {
    LoudMarket one();
  }

  protected static final int LOW = -1000000;
  protected static final int BEYOND = LOW - 1;
  protected static final int NONE = LOW - 2;
  protected static final int STATE = LOW - 3;
  protected static final int FULL = LOW - 4;
  protected static final int KIND = LOW - 5;
  protected static final int PARTED = LOW - 6;
  protected static final int MIN = Integer.MIN_VALUE;
  protected static final int MAX = Integer.MAX_VALUE;

  private static String asked = "";
  private static int wrong = 0;

  // ---- running

  protected static void run(Class<?> tests) throws Exception {
    Method[] all = Arrays.stream(tests.getDeclaredMethods())
        .filter(m -> m.isAnnotationPresent(Asks.class))
        .sorted(Comparator.comparing(Sentences::order)).toArray(Method[]::new);
    String document = document();
    int broken = 0;
    for (Method m : all) {
      int before = wrong;
      Asks asks = m.getAnnotation(Asks.class);
      asked = asks.of() + ", " + m.getName() + ": \"" + asks.says() + "\"";
      must(asks.of().matches("Promise \\d+(, Terms \\d)?"), "names no promise");
      must(document.isEmpty() || document.contains(asks.says()), "DOC.md has no such sentence");
      runOne(m);
      broken += wrong > before ? 1 : 0;
    }
    System.out.println(all.length - broken + " sentences hold, " + broken + " don't");
    if (broken > 0 || all.length == 0) {
      System.exit(1);
    }
  }

  private static String order(Method m) {
    String number = m.getAnnotation(Asks.class).of().replaceAll("\\D+", " ").trim();
    return String.format("%3s", number.split(" ")[0]) + m.getName();
  }

  private static void runOne(Method m) throws Exception {
    m.setAccessible(true);
    try {
      m.invoke(null);
    } catch (InvocationTargetException thrown) {
      must(false, "threw " + thrown.getCause());
    }
  }

  /** The document in one line; empty if it isn't there. */
  private static String document() throws Exception {
    Path path = Path.of(System.getProperty("doc", "../shared/DOC.md"));
    return Files.exists(path) ? Files.readString(path).replaceAll("\\s+", " ") : "";
  }

  // ---- asking

  protected static void must(boolean holds, String what) {
    if (!holds) {
      wrong++;
      System.out.println(asked + "\n  " + what);
    }
  }

  protected static void due(String call, long got, long want) {
    must(got == want, call + " answered " + got + ", due is " + want);
  }

  /** The call answers so, told() counts it if that is an ERROR, and all else is as without it. */
  protected static void unchanged(Made made, String call, Act act, int want) {
    LoudMarket one = made.one();
    LoudMarket other = made.one();
    due(call, act.on(one), want);
    for (int k = 1; k <= 6; k++) {
      due("told(" + k + ") behind " + call, one.told(k), other.told(k) + (want == LOW - k ? 1 : 0));
    }
    List<Long> had = looks(one);
    List<Long> has = looks(other);
    for (int i = 0; i < has.size(); i++) {
      if (!had.get(i).equals(has.get(i))) {
        must(false, call + " changed what look " + i + " sees: " + had.get(i) + ", not " + has.get(i));
        return;
      }
    }
  }

  protected static void refused(Made made, String call, Act act, int want) {
    must(want < LOW, want + " is no ERROR");
    unchanged(made, call, act, want);
  }

  protected static void refused(String call, Act act, int want) {
    refused(Sentences::busy, call, act, want);
  }

  // ---- objects

  protected static void feed(LoudMarket x, String text) {
    for (int i = 0; i < text.length(); i++) {
      x.feed(text.charAt(i), 1);
    }
  }

  protected static int text(LoudMarket x, int use, String text) {
    feed(x, text);
    return x.text(use);
  }

  protected static LoudMarket empty() {
    return new LoudMarket();
  }

  /** One PLACE in a land with the market in 44. */
  protected static LoudMarket with(int km, int cell, int voice) {
    LoudMarket x = new LoudMarket();
    x.place(km, cell, voice);
    return x;
  }

  /** Something of all that an object holds: a PLACE of each KIND, number 4 with m 4. */
  protected static LoudMarket busy() {
    LoudMarket x = new LoudMarket();
    x.ground(3, 1);
    x.ground(45, 2);
    x.ground(54, 1);
    x.place(160, 47, 60);
    x.place(205, 42, 50);
    x.place(310, 70, 30);
    x.place(403, 72, 25);
    x.place(504, 40, 20);
    x.place(630, 46, 70);
    x.place(7, 0, 0);
    text(x, 0, "v-h+f*2");
    text(x, 1, "s/2+h%7");
    x.weeks(2);
    x.seed(76);
    x.image();
    x.rule(1, 4);
    x.rule(2, 1);
    x.ground(12, 2);
    x.set(6, 7, 1);
    x.weeks(3);
    x.seed(77);
    x.voice(5, 3, 9);
    int[] bits = {8, 8, 16};
    for (int sheet = 0; sheet < bits.length; sheet++) {
      x.sheet(sheet, bits[sheet], 8);
      for (int i = 0; i < 8; i++) {
        x.put(sheet, i, 10 + 9 * i + sheet);
      }
    }
    for (int i = 0; i < 7; i++) {
      x.tell(x.placeIs(i, 8));
    }
    feed(x, "v*2+1");
    return x;
  }

  /** Eight PLACES. */
  protected static LoudMarket crowded() {
    LoudMarket x = busy();
    x.place(105, 33, 44);
    return x;
  }

  protected static LoudMarket byPulls() {
    LoudMarket x = busy();
    x.rule(0, 1);
    return x;
  }

  /** WEEKS are 9990; a PLACE, an IMAGE, nothing else. */
  protected static LoudMarket old() {
    LoudMarket x = with(120, 47, 30);
    x.image();
    for (int i = 0; i < 166; i++) {
      x.weeks(60);
    }
    x.weeks(30);
    return x;
  }

  // ---- looking at all of an object

  private static List<Long> looks(LoudMarket x) {
    List<Long> seen = new ArrayList<>();
    for (int i = 0; i < 14; i++) {
      seen.add((long) x.body(i));
    }
    countsAndPlaces(x, seen);
    seen.add((long) x.check());
    seen.add((long) x.whose());
    int places = x.count(0);
    for (int sheet = 0; sheet < 4; sheet++) {
      seen.add((long) x.put(sheet, 8, 0));
      seen.add((long) x.voices(sheet));
      for (int place = 0; place < places; place++) {
        seen.add((long) x.placeIs(place, 3));
      }
    }
    seen.add((long) x.text(0));
    seen.add((long) x.placeIs(4, 8));
    seen.add((long) x.untell(0));
    seen.add((long) x.untell(1));
    for (int what = 0; what < 3; what++) {
      seen.add((long) x.rule(what, 0));
    }
    for (int cell = 0; cell < 80; cell++) {
      seen.add((long) x.ground(cell, 0));
    }
    seen.add((long) x.restore());
    countsAndPlaces(x, seen);
    seen.add((long) x.image());
    return seen;
  }

  private static void countsAndPlaces(LoudMarket x, List<Long> seen) {
    for (int what = 0; what < 9; what++) {
      seen.add((long) x.count(what));
    }
    int places = x.count(0);
    for (int place = 0; place < places; place++) {
      for (int what = 0; what < 10; what++) {
        seen.add((long) x.placeIs(place, what));
      }
    }
  }
}
