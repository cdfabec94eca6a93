import java.util.ArrayDeque;
import java.util.HashMap;
import java.util.HashSet;
import java.util.Map;
import java.util.Random;
import java.util.Set;

// Promise 12 with Terms 2: FAULT is the place of the first byte with which no TEXT goes on.
// This follows all that the grammar allows at once, and so knows by the words of the document
// alone which bytes some TEXT goes on with; how the class reads plays no part.
public final class TextsTest {
  // What is still to come of a TEXT is a row of signs, the next one last. Signs above those of
  // bytes: LETTER and a letter of the grammar, REST and one for what may be joined behind its
  // first part, MORE_DIGITS and how many, OPEN where a ! or ( ends that is open till then.
  private static final char OPEN = '\u1001';
  private static final char DIGIT = '\u1002';
  private static final char NAME = '\u1003';
  private static final char MORE_DIGITS = '\u1010';
  private static final char LETTER = '\u1100';
  private static final char REST = '\u1200';
  private static final int MOST_OPEN = 5;
  private static final String[] NAMES = {"fvhgw", "shg"};
  private static final String SHORT = "v12<+!()";
  private static final int SHORT_SIGNS = 5;
  private static final Map<String, Set<String>> TURNED = new HashMap<>();
  private static int texts = 0;
  private static int wrong = 0;

  public static void main(String[] args) {
    Set<String> start = goingOn("" + (char) (LETTER + 'T'));
    for (int use = 0; use < NAMES.length; use++) {
      shortTexts("", start, use);
      everyByte(start, use);
    }
    Random random = new Random(12);
    for (int i = 0; i < 4000; i++) {
      deepText(start, random, i % 2);
    }
    System.out.println(wrong == 0 ? texts + " texts are read so" : wrong + " texts are not read so");
    if (wrong != 0) {
      System.exit(1);
    }
  }

  // ---- which bytes go on

  /** All rows into which one turns by the grammar, as far as each begins with a byte, or is empty. */
  private static Set<String> goingOn(String row) {
    return TURNED.computeIfAbsent(row, TextsTest::turned);
  }

  private static Set<String> turned(String row) {
    Set<String> known = new HashSet<>();
    Set<String> ends = new HashSet<>();
    ArrayDeque<String> waiting = new ArrayDeque<>();
    waiting.add(row);
    while (!waiting.isEmpty()) {
      String one = waiting.remove();
      if (!known.add(one)) continue;
      if (one.isEmpty() || !turns(one, waiting)) ends.add(one);
    }
    return ends;
  }

  /** Adds into what the row's next sign may turn; false if that is a byte already. */
  private static boolean turns(String row, ArrayDeque<String> into) {
    char next = row.charAt(row.length() - 1);
    String left = row.substring(0, row.length() - 1);
    if (next == OPEN) {
      into.add(left);
    } else if (next >= MORE_DIGITS && next < MORE_DIGITS + 4) {
      into.add(left);
      if (next > MORE_DIGITS) into.add(left + (char) (next - 1) + DIGIT);
    } else if (next >= REST) {
      into.add(left);
      repeated((char) (next - REST), left, into);
    } else if (next >= LETTER) {
      letter((char) (next - LETTER), left, row, into);
    } else {
      return false;
    }
    return true;
  }

  private static void letter(char letter, String left, String row, ArrayDeque<String> into) {
    switch (letter) {
      case 'T': into.add(left + rest('T') + of('A')); break;
      case 'A': into.add(left + rest('A') + of('B')); break;
      case 'B': into.add(left + rest('B') + of('S')); break;
      case 'S': into.add(left + rest('S') + of('P')); break;
      case 'P': into.add(left + rest('P') + of('Q')); break;
      default:
        into.add(left + (char) (MORE_DIGITS + 3) + DIGIT);
        into.add(left + NAME);
        if (row.chars().filter(c -> c == OPEN).count() < MOST_OPEN) {
          into.add(left + OPEN + of('Q') + '!');
          into.add(left + OPEN + ')' + of('T') + '(');
        }
    }
  }

  private static void repeated(char letter, String left, ArrayDeque<String> into) {
    int which = "TABSP".indexOf(letter);
    String[] signs = {"|", "&", "<=>", "+-", "*/%"};
    // Behind one comparison of a B there is no other.
    String again = letter == 'B' ? "" : rest(letter);
    for (char sign : signs[which].toCharArray()) {
      into.add(left + again + of("ABSPQ".charAt(which)) + sign);
    }
  }

  private static String of(char letter) {
    return "" + (char) (LETTER + letter);
  }

  private static String rest(char letter) {
    return "" + (char) (REST + letter);
  }

  private static Set<String> behind(Set<String> rows, char b, int use) {
    Set<String> all = new HashSet<>();
    for (String row : rows) {
      if (row.isEmpty()) continue;
      char next = row.charAt(row.length() - 1);
      boolean goes = next == DIGIT ? b >= '0' && b <= '9' : next == NAME ? NAMES[use].indexOf(b) >= 0 : next == b;
      if (goes) all.addAll(goingOn(row.substring(0, row.length() - 1)));
    }
    return all;
  }

  // ---- asking

  private static int due(String text, Set<String> start, int use) {
    Set<String> rows = start;
    for (int i = 0; i < text.length(); i++) {
      rows = behind(rows, text.charAt(i), use);
      if (rows.isEmpty()) return -10 - i;
    }
    return rows.contains("") ? 1 : -10 - text.length();
  }

  private static void ask(String text, int use, int due) {
    LoudMarket x = new LoudMarket();
    for (int i = 0; i < text.length(); i++) {
      x.feed(text.charAt(i), 1);
    }
    int got = x.text(use);
    boolean stands = x.untell(use) == 1;
    texts++;
    if (got != due || stands != (due == 1) || x.count(4) != 0 || x.told(1) != 0) {
      wrong++;
      System.out.println("Promise 12: text(" + use + ") of " + text + " answered " + got + ", due is " + due
          + "; it stands: " + stands);
    }
  }

  /** All texts of few signs, each begun with what some TEXT begins with. */
  private static void shortTexts(String text, Set<String> rows, int use) {
    ask(text, use, rows.contains("") ? 1 : -10 - text.length());
    if (text.length() == SHORT_SIGNS) return;
    for (char sign : SHORT.toCharArray()) {
      Set<String> further = behind(rows, sign, use);
      if (further.isEmpty()) {
        ask(text + sign, use, -10 - text.length());
        ask(text + sign + "+1", use, -10 - text.length());
      } else {
        shortTexts(text + sign, further, use);
      }
    }
  }

  /** Each byte at the beginning, behind a whole TEXT, behind one that isn't whole. */
  private static void everyByte(Set<String> start, int use) {
    for (String ahead : new String[] {"", "h", "1234", "h<1", "(h", "!", "h*"}) {
      for (int b = 0; b < 256; b++) {
        String text = ahead + (char) b;
        ask(text, use, due(text, start, use));
      }
    }
  }

  private static void deepText(Set<String> start, Random random, int use) {
    StringBuilder text = new StringBuilder();
    int length = random.nextInt(61);
    Set<String> rows = start;
    while (text.length() < length) {
      char sign = "!!!!((((h7)))+*<=|&%-/>".charAt(random.nextInt(23));
      Set<String> further = behind(rows, sign, use);
      // Mostly signs that go on, so that texts come to be long.
      if (further.isEmpty() && random.nextInt(30) > 0) continue;
      text.append(sign);
      if (further.isEmpty()) break;
      rows = further;
    }
    ask(text.toString(), use, due(text.toString(), start, use));
  }
}
