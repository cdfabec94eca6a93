import java.lang.reflect.Method;
import java.nio.file.Files;
import java.nio.file.Path;
import java.util.Set;
import java.util.TreeSet;
import java.util.regex.Matcher;
import java.util.regex.Pattern;

// The calls on README.md answer what stands behind them there; it is wrong where the class isn't.
public final class ReadmeTest {
  private static final Pattern CALL = Pattern.compile("x\\.(\\w+)\\((.*)\\); +// (-?\\d+)(:.*)?");
  private static final int FEWEST_CALLS = 40;
  private static int wrong = 0;

  private static void must(boolean holds, String what) {
    if (!holds) {
      wrong++;
      System.out.println(what);
    }
  }

  public static void main(String[] args) throws Exception {
    String readme = Files.readString(Path.of(System.getProperty("readme", "README.md")));
    Matcher blocks = Pattern.compile("```java\n(.*?)```", Pattern.DOTALL).matcher(readme);
    Set<String> named = new TreeSet<>();
    int calls = 0;
    while (blocks.find()) {
      LoudMarket x = null;
      for (String line : blocks.group(1).split("\n")) {
        if (line.equals("LoudMarket x = new LoudMarket();")) {
          x = new LoudMarket();
        } else {
          named.add(call(x, line));
          calls++;
        }
      }
    }
    must(calls >= FEWEST_CALLS, "README.md has " + calls + " calls");
    must(named.size() > FEWEST_CALLS / 2, "README.md calls only " + named);
    must(readme.contains("bash .ci/run"), "README.md doesn't say how tests are run");
    System.out.println(wrong == 0 ? calls + " calls of README.md answer so" : wrong + " faults");
    if (wrong != 0) {
      System.exit(1);
    }
  }

  private static String call(LoudMarket x, String line) throws Exception {
    Matcher m = CALL.matcher(line);
    if (x == null || !m.matches()) {
      must(false, "not a call with its answer: " + line);
      return "";
    }
    String[] given = m.group(2).isEmpty() ? new String[0] : m.group(2).split(", ");
    Method method = method(m.group(1), given.length);
    if (method == null) {
      must(false, "no such call: " + line);
      return "";
    }
    Object[] arguments = new Object[given.length];
    for (int i = 0; i < given.length; i++) {
      long v = Long.decode(given[i].replace("L", ""));
      boolean wide = method.getParameterTypes()[i] == long.class;
      arguments[i] = wide ? (Object) v : (Object) Math.toIntExact(v);
    }
    Object got = method.invoke(x, arguments);
    must(String.valueOf(got).equals(m.group(3)), line + " answered " + got);
    return method.getName();
  }

  private static Method method(String name, int parameters) {
    for (Method m : LoudMarket.class.getMethods()) {
      if (m.getName().equals(name) && m.getParameterCount() == parameters
          && m.getDeclaringClass() == LoudMarket.class) {
        return m;
      }
    }
    return null;
  }
}
