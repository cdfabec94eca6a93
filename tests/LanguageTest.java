import java.lang.reflect.Constructor;
import java.lang.reflect.Field;
import java.lang.reflect.Method;
import java.lang.reflect.Modifier;
import java.nio.file.Files;
import java.nio.file.Path;
import java.util.ArrayList;
import java.util.Arrays;
import java.util.HashMap;
import java.util.List;
import java.util.Map;
import java.util.Set;
import java.util.TreeSet;
import java.util.regex.Matcher;
import java.util.regex.Pattern;

// The rules of LANGUAGE.md that can be seen from the source and the compiled class.
public final class LanguageTest {
  private static final String[] FACE = {
    "ground(int,int)", "stand(int)", "rule(int,int)", "far(int,int)", "place(int,int,int)",
    "placeIs(int,int)", "as(int,int)", "set(int,int,int)", "worth(int,int)", "feed(long,int)",
    "text(int)", "untell(int)", "weeks(int)", "coins(int)", "seed(int)", "moves()", "then(int)",
    "thenPlace(int,int,int)", "whose()", "comes(int,int)", "least(int,int)", "hush(int,int)",
    "best(int)", "beside(int,int)", "round(int)", "share(int)", "voice(int,int,int)", "body(int)",
    "sheet(int,int,int)", "put(int,int,int)", "move(int,int,int,int,int)", "voices(int)",
    "judge(int)", "image()", "restore()", "tell(int)", "check()", "count(int)", "told(int)"};
  private static final int LONGEST_METHOD = 60;
  private static final int MOST_PARAMETERS = 7;
  private static final int MOST_CLASSES = 12;
  private static final int MOST_FIELDS = 20;
  private static final int MOST_DEEP = 8;
  private static int wrong = 0;

  private static void must(boolean holds, String what) {
    if (!holds) {
      wrong++;
      System.out.println(what);
    }
  }

  public static void main(String[] args) throws Exception {
    String path = System.getProperty("source", "src/main/java/LoudMarket.java");
    String source = bare(Files.readString(Path.of(path)));
    theFace();
    List<Class<?>> classes = new ArrayList<>(Arrays.asList(LoudMarket.class.getDeclaredClasses()));
    classes.add(LoudMarket.class);
    must(classes.size() <= MOST_CLASSES, "rule 11: " + classes.size() + " classes");
    for (Class<?> c : classes) {
      oneClass(c);
    }
    words(source);
    methodLengths(source);
    callDepth(source);
    System.out.println(wrong == 0 ? "the rules are kept" : wrong + " rules are broken");
    if (wrong != 0) {
      System.exit(1);
    }
  }

  /** The source without comments, strings and characters, lines kept. */
  private static String bare(String source) {
    Matcher m = Pattern.compile("//[^\n]*|/\\*.*?\\*/|\"[^\"\n]*\"|'[^'\n]+'", Pattern.DOTALL)
        .matcher(source);
    return m.replaceAll(r -> r.group().replaceAll("[^\n]", " "));
  }

  private static String signature(Method m) {
    StringBuilder types = new StringBuilder();
    for (Class<?> type : m.getParameterTypes()) {
      types.append(types.length() > 0 ? "," : "").append(type.getSimpleName());
    }
    return m.getName() + "(" + types + ")";
  }

  private static void theFace() {
    must(Modifier.isFinal(LoudMarket.class.getModifiers()), "rule 1: the class is not final");
    must(LoudMarket.class.getPackageName().isEmpty(), "it has a package");
    Set<String> seen = new TreeSet<>();
    Set<String> names = new TreeSet<>();
    for (Method m : LoudMarket.class.getDeclaredMethods()) {
      if (Modifier.isPublic(m.getModifiers())) {
        seen.add(signature(m));
        names.add(m.getName());
        must(m.getReturnType() == int.class, "answers no int: " + m);
      }
    }
    must(seen.equals(new TreeSet<>(Arrays.asList(FACE))), "rule 1: the face is " + seen);
    for (Method m : LoudMarket.class.getDeclaredMethods()) {
      boolean open = Modifier.isPublic(m.getModifiers());
      must(open || m.isSynthetic() || Modifier.isPrivate(m.getModifiers()), "rule 1: not private: " + m);
      must(open || !names.contains(m.getName()), "rule 1: a private one of a public name: " + m);
    }
    Constructor<?>[] made = LoudMarket.class.getDeclaredConstructors();
    must(made.length == 1 && Modifier.isPublic(made[0].getModifiers())
        && made[0].getParameterCount() == 0, "rule 1: the constructor");
    for (Field f : LoudMarket.class.getDeclaredFields()) {
      must(Modifier.isPrivate(f.getModifiers()), "rule 1: not private: " + f);
    }
  }

  private static void oneClass(Class<?> c) {
    int fields = 0;
    for (Field f : c.getDeclaredFields()) {
      if (!Modifier.isStatic(f.getModifiers())) {
        fields++;
        continue;
      }
      must(Modifier.isFinal(f.getModifiers()), "rule 5: a static that is not final: " + f);
      must(f.getType().isPrimitive() || f.getType() == String.class || f.getType() == int[].class,
          "rule 5: a static of another type: " + f);
    }
    must(fields <= MOST_FIELDS, "rule 11: " + fields + " fields in " + c);
    must(c == LoudMarket.class || Modifier.isStatic(c.getModifiers()), "rule 2: inner: " + c);
    for (Method m : c.getDeclaredMethods()) {
      must(!Modifier.isPrivate(m.getModifiers()) || !faceNames().contains(m.getName()),
          "rule 1: a private one of a public name: " + m);
      must(m.getParameterCount() <= MOST_PARAMETERS, "rule 11: many parameters: " + m);
      must(!m.getName().startsWith("lambda$"), "rule 2: a lambda: " + m);
      must(!Set.of("equals", "hashCode", "toString").contains(m.getName()), "rule 6: " + m);
    }
  }

  private static void words(String source) {
    String[] banned = {"throw", "throws", "try", "catch", "synchronized", "assert", "import",
      "protected", "package", "System\\.(?!arraycopy)", "Random", "Thread", "->", "::",
      "equals", "hashCode", "toString", "Exact", "Object", "instanceof"};
    for (String word : banned) {
      Matcher m = Pattern.compile(Character.isLetter(word.charAt(0)) ? "\\b" + word : word).matcher(source);
      must(!m.find(), "rules 4 and 6: " + word);
    }
    must(!Pattern.compile("\\bwhile \\(true\\)|for \\(;;\\)").matcher(source).find(), "rule 9");
    must(source.chars().allMatch(c -> c < 128), "rule 4: a sign above 127");
  }

  private static void methodLengths(String source) {
    String[] lines = source.split("\n");
    int start = -1;
    for (int i = 0; i < lines.length; i++) {
      if (lines[i].matches("( {2}| {4})[a-zA-Z].*\\) \\{")) {
        start = i;
      } else if (start >= 0 && lines[i].matches("( {2}| {4})\\}")) {
        must(i - start < LONGEST_METHOD, "rule 11: long method at line " + (start + 1));
        start = -1;
      }
    }
  }

  private static Set<String> faceNames() {
    Set<String> names = new TreeSet<>();
    for (String call : FACE) {
      names.add(call.substring(0, call.indexOf('(')));
    }
    return names;
  }

  // ---- how deep calls go: methods of one name are taken together, which can only add to it

  private static void callDepth(String source) {
    Map<String, Set<String>> calls = new HashMap<>();
    Matcher methods = Pattern.compile("(?m)^( {2}| {4})(?! )[\\w\\[\\] ]*?\\b(\\w+)\\([^()]*\\) \\{(.*?)^\\1\\}",
        Pattern.DOTALL).matcher(source);
    while (methods.find()) {
      Matcher called = Pattern.compile("(?<!new )\\b(\\w+)\\(").matcher(methods.group(3));
      while (called.find()) {
        calls.computeIfAbsent(methods.group(2), name -> new TreeSet<>()).add(called.group(1));
      }
    }
    for (String name : faceNames()) {
      List<String> deepest = deepest(calls, name, new ArrayList<>());
      must(deepest.size() <= MOST_DEEP, "rule 11: calls go deep: " + deepest);
    }
    must(deepest(calls, "weeks", new ArrayList<>()).contains("shoutOf"), "rule 11: calls are not seen");
  }

  /** The longest chain of calls that one begins; a call that stands open already adds nothing. */
  private static List<String> deepest(Map<String, Set<String>> calls, String name, List<String> open) {
    open.add(name);
    List<String> most = List.of();
    for (String called : calls.getOrDefault(name, Set.of())) {
      if (called.matches("if|for|while|switch|return") || open.contains(called)) {
        continue;
      }
      List<String> chain = deepest(calls, called, open);
      most = chain.size() > most.size() ? chain : most;
    }
    open.remove(open.size() - 1);
    List<String> whole = new ArrayList<>(List.of(name));
    whole.addAll(most);
    return whole;
  }
}
