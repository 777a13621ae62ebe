import java.lang.reflect.InvocationTargetException;
import java.lang.reflect.Method;
import java.util.HashMap;
import java.util.Map;
import java.util.Random;

/** Asks GoatCourt and the plain model of the document the same, by chance: HILLS, FAULTS and all calls. */
public final class ModelTest {
  /** The arguments: c CASE, g goat, p person, l PLACE, h hour, f plant, k CLUE, t path, s small, b boolean. */
  private static final String[] CALLS = {"plants lf", "near l", "goat gs", "likes gs", "clue ks", "story psh", "stories p",
      "caseOf cp", "at cgh", "ate cgf", "drops cgfl", "flees cg", "left clf", "met cgp", "isTrue ck", "fits ", "fit s",
      "could ph", "surely ph", "lies p", "falseOnes ", "odds c", "likeliest ", "proved plh", "ask ", "askMost ",
      "led cglh", "ledAt cglhs", "scared cglh", "follows x", "step ", "needs x", "enough x", "cheese c", "cheeseOf c",
      "appeals ", "appealAt s", "salt lhb", "dog lhb", "hedge tb", "hear gb", "undo ", "mark ", "back s", "put sb",
      "size z", "trouble ", "fault ", "where ", "salt lhb", "dog lhb", "hedge tb", "hear gb", "salt lhb", "dog lhb"};
  private static final Map<String, Method[]> METHODS = new HashMap<>();
  private static final Check check = new Check();

  public static void main(String[] args) throws Exception {
    for (Method m : Model.class.getDeclaredMethods()) {
      if (java.lang.reflect.Modifier.isPublic(m.getModifiers())) {
        METHODS.put(m.getName(), new Method[] {GoatCourt.class.getMethod(m.getName(), m.getParameterTypes()), m});
      }
    }
    int runs = args.length > 0 ? Integer.parseInt(args[0]) : 1500;
    int seed = args.length > 1 ? Integer.parseInt(args[1]) : 1;
    for (int run = seed; run < seed + runs; run++) {
      run(run, run % 40 == 0 ? 2 : run % 4 == 0 ? 1 : 0);
    }
    check.end();
  }

  private static void run(int seed, int size) throws Exception {
    Random random = new Random(seed * 7919L + 13);
    GoatCourt court = new GoatCourt();
    Model model = new Model();
    // an object is used for 512 calls; a text and what is asked of it then take up to 73
    int left = 512;
    for (int i = 0; i < 2 && left > 160; i++) {
      String text = new Texts(random, size).text();
      left -= load(seed, court, model, text, text.length() - (random.nextInt(20) == 0 ? random.nextInt(60) : 0));
      for (int k = 0; k < 90 && left > 80; k++) {
        left -= call(seed, random, court, model, size);
      }
      String spoiled = Texts.spoil(text, random);
      left -= load(seed, court, model, spoiled, spoiled.length());
      for (int k = 0; k < 4; k++) {
        left -= call(seed, random, court, model, size);
      }
    }
    if (size == 0) {
      sweep(seed, random);
    }
    for (int i = 0; i < 20; i++) {
      GoatCourt fresh = new GoatCourt();
      Model plain = new Model();
      String spoiled = Texts.spoil(new Texts(random, random.nextInt(8) == 0 ? 1 : 0).text(), random);
      load(seed, fresh, plain, spoiled, spoiled.length());
    }
  }

  /** What chance seldom meets: all that might be proved, and all that might be led to. */
  private static void sweep(int seed, Random random) {
    GoatCourt court = new GoatCourt();
    Model model = new Model();
    String text = new Texts(random, 0).text();
    load(seed, court, model, text, text.length());
    int c = random.nextInt(Math.max(1, model.size(11)));
    int hour = random.nextInt(Math.max(1, model.size(0)));
    for (int place = 0; place < model.size(2); place++) {
      for (int p = 0; p < model.size(4); p++) {
        check.due("run " + seed + ": proved(" + p + ", " + place + ", " + hour + ") of '" + text + "'",
            court.proved(p, place, hour), model.proved(p, place, hour));
      }
      for (int g = 0; g < model.size(5); g++) {
        for (int i = 0; i < 2; i++) {
          check.due("run " + seed + ": ledAt(" + c + ", " + g + ", " + place + ", " + hour + ", " + i + ") of '" + text + "'",
              court.ledAt(c, g, place, hour, i), model.ledAt(c, g, place, hour, i));
        }
        check.due("run " + seed + ": scared(" + c + ", " + g + ", " + place + ", " + hour + ") of '" + text + "'",
            court.scared(c, g, place, hour), model.scared(c, g, place, hour));
      }
    }
  }

  private static int load(int seed, GoatCourt court, Model model, String text, int n) {
    Check.feed(court, text);
    Texts.feed(model, text);
    String what = "run " + seed + ": hill(" + n + ") of '" + text + "'";
    check.due(what, court.hill(n), model.hill(n));
    check.due(what + " trouble()", court.trouble(), model.trouble());
    check.due(what + " fault()", court.fault(), model.fault());
    check.due(what + " where()", court.where(), model.where());
    check.due(what + " size(14)", court.size(14), model.size(14));
    return 5 + (text.length() + 19) / 20;
  }

  private static int call(int seed, Random random, GoatCourt court, Model model, int size) throws Exception {
    String[] parts = CALLS[random.nextInt(CALLS.length)].split(" ");
    if (size == 2 && random.nextInt(8) > 0 && (parts[0].startsWith("led") || parts[0].equals("scared"))) {
      return 0;
    }
    Method[] both = METHODS.get(parts[0]);
    String sorts = parts.length > 1 ? parts[1] : "";
    Object[] arguments = new Object[sorts.length()];
    StringBuilder shown = new StringBuilder("run " + seed + ": " + parts[0] + "(");
    for (int i = 0; i < arguments.length; i++) {
      arguments[i] = argument(sorts.charAt(i), random, model);
      shown.append(i == 0 ? "" : ", ").append(arguments[i]);
    }
    shown.append(")");
    check.due(shown.toString(), ask(both[0], court, arguments), ask(both[1], model, arguments));
    check.due(shown + ", then trouble()", court.trouble(), model.trouble());
    return 2;
  }

  private static Object ask(Method method, Object whom, Object[] arguments) throws Exception {
    try {
      return method.invoke(whom, arguments);
    } catch (InvocationTargetException e) {
      return e.getCause().getClass();
    }
  }

  private static Object argument(char sort, Random random, Model model) {
    if (sort == 'b') {
      return random.nextInt(3) > 0;
    }
    int count = switch (sort) {
      case 'c' -> model.size(11);
      case 'g' -> model.size(5);
      case 'p' -> model.size(4);
      case 'l' -> model.size(2);
      case 'h' -> model.size(0);
      case 'f' -> model.size(1);
      case 'k' -> model.size(6);
      case 't' -> model.size(3);
      case 'x' -> model.size(7);
      case 'z' -> 15;
      default -> 4;
    };
    int[] wrong = {-1, count, count + 1, Integer.MIN_VALUE, Integer.MAX_VALUE, 12, 8, 100};
    return random.nextInt(40) == 0 || count == 0 ? wrong[random.nextInt(wrong.length)] : random.nextInt(count);
  }
}
