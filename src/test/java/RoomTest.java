import java.lang.management.ManagementFactory;
import java.lang.reflect.Array;
import java.lang.reflect.Field;
import java.lang.reflect.InvocationTargetException;
import java.lang.reflect.Method;
import java.lang.reflect.Modifier;
import java.util.ArrayDeque;
import java.util.Deque;
import java.util.IdentityHashMap;
import java.util.NoSuchElementException;
import java.util.Random;

/** How much room an object takes, that calls take little, and that no call throws whatever it is asked. */
public final class RoomTest {
  private static final Check check = new Check();

  public static void main(String[] args) throws Exception {
    size();
    callsMakeLittle();
    wildCalls();
    check.end();
  }

  /** All that one object holds: objects and arrays, fields and elements. */
  private static void size() throws Exception {
    IdentityHashMap<Object, Boolean> seen = new IdentityHashMap<>();
    Deque<Object> open = new ArrayDeque<>();
    open.add(new GoatCourt());
    long objects = 0;
    long parts = 0;
    while (!open.isEmpty()) {
      Object x = open.poll();
      if (seen.put(x, true) != null) {
        continue;
      }
      objects++;
      if (x.getClass().isArray()) {
        parts += Array.getLength(x);
        continue;
      }
      for (Field f : x.getClass().getDeclaredFields()) {
        if (!Modifier.isStatic(f.getModifiers())) {
          parts++;
          f.setAccessible(true);
          if (!f.getType().isPrimitive() && f.get(x) != null) {
            open.add(f.get(x));
          }
        }
      }
    }
    // a hundred objects in one room of 600,000 objects and 7.3 million fields and elements
    check.due("objects and arrays of one GoatCourt: " + objects + ", at most 6,000", objects <= 6000, true);
    check.due("fields and elements of one GoatCourt: " + parts + ", at most 73,000", parts <= 73000, true);
  }

  /** The dearest calls, on a HILL as large as can be: their rows are made once and used again. */
  private static void callsMakeLittle() {
    String text = new Texts(new Random(5), 2).text();
    GoatCourt x = new GoatCourt();
    byte[] bytes = text.getBytes(java.nio.charset.StandardCharsets.ISO_8859_1);
    com.sun.management.ThreadMXBean counter = (com.sun.management.ThreadMXBean) ManagementFactory.getThreadMXBean();
    long id = Thread.currentThread().getId();
    long made = 0;
    // the first rounds make what the machine itself needs
    for (int round = 0; round < 4; round++) {
      long before = counter.getThreadAllocatedBytes(id);
      all(x, bytes);
      made = counter.getThreadAllocatedBytes(id) - before;
    }
    check.due("bytes made by a hundred calls: " + made + ", at most 100,000", made < 100000, true);
  }

  private static void all(GoatCourt x, byte[] bytes) {
    for (int i = 0; i < bytes.length; i += 20) {
      x.feed(Check.four(bytes, i), Check.four(bytes, i + 4), Check.four(bytes, i + 8), Check.four(bytes, i + 12),
          Check.four(bytes, i + 16));
    }
    x.hill(bytes.length);
    x.salt(1, 1, true);
    x.dog(2, 1, true);
    x.hedge(0, true);
    x.fits();
    x.could(0, 0);
    x.surely(0, 0);
    x.lies(0);
    x.falseOnes();
    x.likeliest();
    x.proved(0, 0, 0);
    x.ask();
    x.askMost();
    for (int place = 0; place < 8; place++) {
      x.led(0, 0, place, 11);
      x.ledAt(0, 0, place, 11, 0);
      x.scared(0, 0, place, 11);
    }
    x.needs(0);
    x.enough(0);
    x.step();
    x.cheese(0);
    x.appeals();
    x.appealAt(0);
    x.mark();
    x.back(0);
    x.undo();
  }

  /** Any numbers in any state: nothing is thrown but by put(). */
  private static void wildCalls() throws Exception {
    Random random = new Random(11);
    int[] odd = {0, 1, 2, 3, 5, 7, 8, 11, 12, 13, 80, 81, -1, -2, 100, 1200, 1201, Integer.MAX_VALUE, Integer.MIN_VALUE};
    for (int run = 0; run < 400; run++) {
      GoatCourt x = new GoatCourt();
      if (run % 4 > 0) {
        Check.hill(x, new Texts(random, run % 2).text());
      }
      for (int i = 0; i < 400; i++) {
        Method m = any(random);
        Object[] arguments = new Object[m.getParameterCount()];
        for (int k = 0; k < arguments.length; k++) {
          boolean flag = m.getParameterTypes()[k] == boolean.class;
          arguments[k] = flag ? (Object) random.nextBoolean() : (Object) odd[random.nextInt(odd.length)];
        }
        try {
          m.invoke(x, arguments);
        } catch (InvocationTargetException e) {
          boolean due = m.getName().equals("put") && e.getCause().getClass() == NoSuchElementException.class;
          check.due(m + " " + java.util.Arrays.toString(arguments) + " threw " + e.getCause(), due, true);
        }
      }
    }
  }

  private static Method any(Random random) {
    Method[] all = GoatCourt.class.getDeclaredMethods();
    java.util.Arrays.sort(all, java.util.Comparator.comparing(Method::toString));
    Method m = all[random.nextInt(all.length)];
    while (!Modifier.isPublic(m.getModifiers())) {
      m = all[random.nextInt(all.length)];
    }
    return m;
  }
}
