import com.sun.management.ThreadMXBean;
import java.lang.management.ManagementFactory;
import java.lang.reflect.InvocationTargetException;
import java.lang.reflect.Method;
import java.util.Arrays;
import java.util.Comparator;
import java.util.Random;

// No call throws, whatever its arguments; a new object is small, and its calls make nothing.
public final class RoomTest {
  private static final int[] EDGES = {
    Integer.MIN_VALUE, Integer.MIN_VALUE + 1, -1000001, -100, -1, 0, 1, 2, 3, 7, 8, 20, 21, 24, 25,
    32, 60, 61, 79, 80, 99, 100, 699, 700, 1000000, Integer.MAX_VALUE - 1, Integer.MAX_VALUE};
  private static final long MOST_BYTES = 40_000;
  private static int wrong = 0;

  public static void main(String[] args) throws Exception {
    wildCalls();
    room();
    System.out.println(wrong == 0 ? "nothing is thrown or made" : wrong + " faults");
    if (wrong != 0) {
      System.exit(1);
    }
  }

  private static void wildCalls() throws Exception {
    Method[] methods = LoudMarket.class.getDeclaredMethods();
    Method[] face = Arrays.stream(methods)
        .filter(m -> java.lang.reflect.Modifier.isPublic(m.getModifiers()))
        .sorted(Comparator.comparing(Method::getName)).toArray(Method[]::new);
    for (int run = 0; run < 300; run++) {
      Random random = new Random(run);
      LoudMarket x = new LoudMarket();
      for (int i = 0; i < 512; i++) {
        Method m = face[random.nextInt(face.length)];
        wildCall(x, m, random);
      }
    }
  }

  private static void wildCall(LoudMarket x, Method m, Random random) throws Exception {
    Class<?>[] types = m.getParameterTypes();
    Object[] given = new Object[types.length];
    for (int k = 0; k < given.length; k++) {
      int v = random.nextInt(3) > 0 ? random.nextInt(9) : EDGES[random.nextInt(EDGES.length)];
      if (types[k] == long.class) {
        given[k] = random.nextBoolean() ? random.nextLong() : 0x2b29283776212866L >>> (v & 63);
      } else {
        given[k] = v;
      }
    }
    try {
      m.invoke(x, given);
    } catch (InvocationTargetException thrown) {
      wrong++;
      System.out.println(m.getName() + Arrays.toString(given) + " threw " + thrown.getCause());
    }
  }

  private static LoudMarket full() {
    LoudMarket x = new LoudMarket();
    for (int i = 0; i < 8; i++) {
      x.place(100 * (i % 6 + 1) + 10 * i, 9 * i + 3, 90 - i);
    }
    for (char c : "((((v+h))))*9-f*(g+w)%77|h&v<g+f*(w/3)-!(h>v)+1".toCharArray()) {
      x.feed(c, 1);
    }
    x.text(0);
    for (char c : "((((s+h))))*9-s*(g+s)%77|h&s<g+h*(s/3)-!(h>s)+1".toCharArray()) {
      x.feed(c, 1);
    }
    x.text(1);
    x.sheet(0, 8, 24);
    return x;
  }

  private static int dearCalls(LoudMarket x) {
    int sum = x.least(7, 60) + x.beside(3, 20) + x.hush(2, 60) + x.round(0) + x.judge(0);
    sum += x.thenPlace(60, 1, 8) + x.comes(79, 60) + x.weeks(3) + x.coins(2) + x.voice(5, 3, 99);
    sum += x.image() + x.restore() + x.best(1) + x.tell(3) + x.check() + x.voices(0) + x.moves();
    x.feed(0x283e36312b6628L, 7);
    return sum + x.text(0) + x.sheet(1, 32, 24) + x.put(1, 3, 7) + x.move(1, 0, 1, 3, 9);
  }

  private static void room() {
    ThreadMXBean bean = (ThreadMXBean) ManagementFactory.getThreadMXBean();
    long thread = Thread.currentThread().getId();
    int sum = dearCalls(full());
    long start = bean.getThreadAllocatedBytes(thread);
    LoudMarket x = full();
    long made = bean.getThreadAllocatedBytes(thread);
    for (int i = 0; i < 20; i++) {
      sum += dearCalls(x);
    }
    long called = bean.getThreadAllocatedBytes(thread);
    if (made - start > MOST_BYTES || called - made > 2_000) {
      wrong++;
      System.out.println("bytes of an object: " + (made - start) + ", of its calls: " + (called - made) + " " + sum);
    }
  }
}
