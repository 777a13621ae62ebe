import java.lang.reflect.InvocationTargetException;
import java.lang.reflect.Method;
import java.util.ArrayList;
import java.util.Arrays;
import java.util.HashMap;
import java.util.List;
import java.util.Map;
import java.util.NoSuchElementException;

/**
 * Each call's numbers: the least and the greatest that are taken, the next on each side, by which number a call is refused,
 * and that a refused one leaves all as it is; on no HILL, on the least one and on a full one.
 */
public final class CallEdgesTest {
  private static final Check check = new Check();

  /**
   * The calls that are refused by numbers, a letter for each number that they take: c CASE, g goat, p person, l PLACE, h hour,
   * f plant, k CLUE, t path, x FACT, o court; and 7, 4 as many, S stories, L likings, F CASES that fit, M MARKS; b a boolean.
   */
  private static final String[] CALLS = {"plants lf", "near l", "goat g7", "likes gL", "clue k4", "story pSh", "stories p",
      "caseOf cp", "at cgh", "ate cgf", "drops cgfl", "flees cg", "left clf", "met cgp", "isTrue ck", "fit F", "could ph",
      "surely ph", "lies p", "odds c", "proved plh", "led cglh", "scared cglh", "follows x", "needs x", "enough x",
      "cheese c", "cheeseOf c", "appealAt o", "salt lhb", "dog lhb", "hedge tb", "hear gb", "back M"};

  /** Calls without numbers that are refused without a HILL, all but undo() by 1. */
  private static final String[] BARE = {"fits", "falseOnes", "likeliest", "ask", "askMost", "step", "appeals", "mark", "undo"};

  private static final Map<String, Method[]> METHODS = new HashMap<>();

  public static void main(String[] args) throws Exception {
    for (Method m : Model.class.getDeclaredMethods()) {
      if (java.lang.reflect.Modifier.isPublic(m.getModifiers())) {
        METHODS.put(m.getName(), new Method[] {GoatCourt.class.getMethod(m.getName(), m.getParameterTypes()), m});
      }
    }
    Map<Character, Integer> full = counts(Hills.FULL_SIZES);
    full.put('S', 3);
    full.put('F', 16);
    Map<Character, Integer> least = counts(new int[] {2, 1, 1, 0, 0, 0, 0, 0, 0, 0, 0, 1});
    least.put('F', 1);
    for (String call : CALLS) {
      refusals(Hills.FULL, call, full);
      refusals(Hills.LEAST, call, least);
      refusals("", call, counts(new int[12]));
      taken(Hills.FULL, call, full);
      taken(Hills.LEAST, call, least);
    }
    leadingNumbers();
    bare();
    feeding();
    hillNumbers();
    hillStays();
    hillAnew();
    hillsInTurn();
    faultNumbers();
    whereAndTrouble();
    sizes();
    puts();
    manyCalls();
    check.end();
  }

  /** How many of each there are on a HILL, by what size() tells. */
  private static Map<Character, Integer> counts(int[] sizes) {
    Map<Character, Integer> counts = new HashMap<>();
    String letters = "hfltpgkx..oc";
    for (int i = 0; i < 12; i++) {
      counts.put(letters.charAt(i), sizes[i]);
    }
    boolean goats = sizes[5] > 0;
    counts.put('7', 7);
    counts.put('4', 4);
    counts.put('L', goats ? 4 : 0);
    counts.put('S', 0);
    counts.put('F', 0);
    counts.put('M', 0);
    return counts;
  }

  private static Object invoke(Method method, Object whom, Object... arguments) throws Exception {
    try {
      return method.invoke(whom, arguments);
    } catch (InvocationTargetException e) {
      return "throws." + e.getCause().getClass().getSimpleName();
    }
  }

  private static GoatCourt on(String text) {
    GoatCourt x = new GoatCourt();
    if (!text.isEmpty()) {
      check.due("a HILL", Check.hill(x, text) > 0, true);
      x.salt(0, 1, true);
      x.dog(0, 0, true);
    }
    return x;
  }

  /** What may be seen of the state, but for the trouble. */
  private static String state(GoatCourt x) {
    StringBuilder seen = new StringBuilder();
    for (int what = 0; what < 15; what++) {
      seen.append(x.size(what)).append(' ');
    }
    for (int i = 0; i < 5; i++) {
      seen.append(Check.put(x, i, false)).append(' ').append(Check.put(x, i, true)).append(' ');
    }
    for (int g = 0; g < x.size(5); g++) {
      seen.append(x.goat(g, 6)).append(' ').append(x.at(0, g, 1)).append(' ');
    }
    return seen.append(x.fits()).append(' ').append(x.fault()).toString();
  }

  /** Any one number, or any more of them, out of bounds: refused, by the first such number. */
  private static void refusals(String text, String call, Map<Character, Integer> counts) throws Exception {
    String name = call.split(" ")[0];
    String sorts = call.split(" ")[1];
    check.by("Promise of " + name + ": by which numbers it is refused");
    Method method = METHODS.get(name)[0];
    int numbers = sorts.replace("b", "").length();
    String before = state(on(text));
    GoatCourt x = on(text);
    int made = 65;
    for (int bad = 0; bad < 1 << numbers; bad++) {
      for (int way = 0; way < 7; way++) {
        Object[] arguments = new Object[sorts.length()];
        int due = 0;
        for (int i = numbers - 1; i >= 0; i--) {
          int count = counts.get(sorts.charAt(i));
          int[] values = {-1, count, count + 1, Integer.MIN_VALUE, Integer.MAX_VALUE, -2, count + 99};
          boolean wrong = (bad >> i & 1) == 1;
          arguments[i] = wrong ? values[way] : way % 2 == 0 ? 0 : Math.max(0, count - 1);
          if (wrong || count == 0) {
            due = sorts.charAt(i) == 'h' ? 2 : 1;
          }
        }
        if (sorts.endsWith("b")) {
          arguments[sorts.length() - 1] = way % 2 == 0;
        }
        if (due > 0) {
          if (made > 400) {
            check.due(name + ": state behind refused calls", state(x), before);
            x = on(text);
            made = 65;
          }
          made += 2;
          check.refused(x, shown(text, name, arguments), invoke(method, x, arguments), due);
        }
      }
    }
    check.due(name + ": state behind refused calls", state(x), before);
  }

  private static String shown(String text, String name, Object[] arguments) {
    String where = text.isEmpty() ? "no HILL: " : text.equals(Hills.LEAST) ? "the least HILL: " : "a full HILL: ";
    return where + name + Arrays.toString(arguments);
  }

  /** The least and the greatest of each number: as the plain model of the document answers. */
  private static void taken(String text, String call, Map<Character, Integer> counts) throws Exception {
    String name = call.split(" ")[0];
    String sorts = call.split(" ")[1];
    check.by("Promise of " + name + ": the least and the greatest numbers");
    if (sorts.endsWith("b") || sorts.equals("M")) {
      return;
    }
    GoatCourt x = new GoatCourt();
    Model model = new Model();
    Check.hill(x, text);
    Texts.feed(model, text);
    model.hill(text.length());
    for (int high = 0; high < 1 << sorts.length(); high++) {
      Object[] arguments = new Object[sorts.length()];
      boolean any = true;
      for (int i = 0; i < sorts.length(); i++) {
        int count = counts.get(sorts.charAt(i));
        any &= count > 0;
        arguments[i] = (high >> i & 1) == 1 ? count - 1 : 0;
      }
      // the fourth liking is the last goat's; the least HILL has no cheese
      any &= !(name.equals("likes") && high == 2) && !(name.startsWith("cheese") && text.equals(Hills.LEAST));
      if (any) {
        check.fine(x, shown(text, name, arguments), invoke(METHODS.get(name)[0], x, arguments),
            invoke(METHODS.get(name)[1], model, arguments));
      }
    }
  }

  private static void leadingNumbers() {
    check.by("ledAt: likewise; 1 (i)");
    String text = "hill hours 3 plants 1;place a 0;place b 0;place c 0;path a b;path b c;person p;story p a;story p b;"
        + "goat g plain likes a at a trust 5;goat h plain likes a at b trust 5";
    int[] counts = {2, 2, 3, 3};
    for (int bad = 1; bad < 16; bad++) {
      GoatCourt x = on(text);
      x.undo();
      x.undo();
      for (int i = -1; i <= 2; i++) {
        for (int way = 0; way < 4; way++) {
          int[] a = new int[4];
          int due = 0;
          for (int k = 3; k >= 0; k--) {
            int[] values = {-1, counts[k], Integer.MIN_VALUE, Integer.MAX_VALUE};
            boolean wrong = (bad >> k & 1) == 1;
            a[k] = wrong ? values[way] : 0;
            due = !wrong ? due : k == 3 ? 2 : 1;
          }
          check.refused(x, "ledAt" + Arrays.toString(a) + " " + i, x.ledAt(a[0], a[1], a[2], a[3], i), due);
          check.refused(x, "led" + Arrays.toString(a), x.led(a[0], a[1], a[2], a[3]), due);
          check.refused(x, "scared" + Arrays.toString(a), x.scared(a[0], a[1], a[2], a[3]), due);
        }
      }
    }
    GoatCourt x = on(text);
    x.undo();
    x.undo();
    check.fine(x, "the last CASE, goat, PLACE, hour", x.led(1, 1, 2, 2), 1);
    check.fine(x, "its first", x.ledAt(1, 1, 2, 2, 0), 200);
    for (int i : new int[] {-1, 1, 2, Integer.MIN_VALUE, Integer.MAX_VALUE}) {
      check.refused(x, "its " + i, x.ledAt(1, 1, 2, 2, i), 1);
    }
    check.fine(x, "two", x.led(1, 0, 2, 1), 2);
    check.fine(x, "its first", x.ledAt(1, 0, 2, 1, 0), 100);
    check.fine(x, "its second", x.ledAt(1, 0, 2, 1, 1), 201);
    for (int i : new int[] {-1, 2, 3, Integer.MIN_VALUE, Integer.MAX_VALUE}) {
      check.refused(x, "of two, its " + i, x.ledAt(1, 0, 2, 1, i), 1);
    }
    check.fine(x, "none needed", x.led(0, 0, 0, 0), 0);
    check.fine(x, "two aren't enough", x.led(0, 0, 2, 0), -2);
    for (int i : new int[] {-2, -1, 0, 1}) {
      check.refused(x, "of none needed, its " + i, x.ledAt(0, 0, 0, 0, i), 1);
      check.refused(x, "where two aren't enough, its " + i, x.ledAt(0, 0, 2, 0, i), 1);
    }
  }

  private static void bare() throws Exception {
    check.by("NONE: 1 (no HILL)");
    for (String name : BARE) {
      GoatCourt x = new GoatCourt();
      check.refused(x, name + "() of a new object", invoke(METHODS.get(name)[0], x), name.equals("undo") ? 6 : 1);
      // a text with a FAULT is no HILL
      Check.hill(x, "hill hours 2 plants 1;place");
      check.refused(x, name + "() behind a FAULT", invoke(METHODS.get(name)[0], x), name.equals("undo") ? 6 : 1);
      x.hill(1);
      check.refused(x, name + "() behind a number", invoke(METHODS.get(name)[0], x), name.equals("undo") ? 6 : 1);
      check.due("no HILL", state(x).startsWith("0 0 0 0 0 0 0 0 0 0 0 0 0 0 0 "), true);
      // the least HILL: it is refused no more, or by 6
      Check.hill(x, Hills.LEAST);
      Object got = invoke(METHODS.get(name)[0], x);
      boolean none = name.equals("undo") || name.equals("step") || name.startsWith("ask");
      if (none) {
        check.refused(x, name + "() of the least HILL", got, 6);
      } else {
        check.fine(x, name + "() of the least HILL", got, name.equals("fits") ? 1 : 0);
      }
    }
  }

  private static void feeding() {
    check.by("Promise 2: how many it has; NONE, and none comes, if there would be more than 1,200");
    GoatCourt x = new GoatCourt();
    for (int i = 1; i <= 60; i++) {
      check.due("size(14) ahead of it", x.size(14), 20 * (i - 1));
      check.due("feed " + i, x.feed(-1, -1, -1, -1, -1), 20 * i);
    }
    for (int i = 0; i < 3; i++) {
      check.due("feed, no more room", x.feed(0, 0, 0, 0, 0), -1);
      check.due("size(14) behind it", x.size(14), 1200);
    }
    check.due("it has no trouble", x.trouble(), 0);
    x.hill(0);
    check.due("empty then", x.size(14), 0);
    check.due("feed anew", x.feed(0, 0, 0, 0, 0), 20);
    check.by("of each number the highest first");
    String text = "hill hours 2 plants 1;place abcd 7;place efgh 8;place a 9;place b 1";
    x = new GoatCourt();
    byte[] bytes = text.getBytes(java.nio.charset.StandardCharsets.ISO_8859_1);
    for (int i = 0; i < 80; i += 20) {
      int[] five = new int[5];
      for (int k = 0; k < 5; k++) {
        for (int b = 0; b < 4; b++) {
          int at = i + 4 * k + b;
          five[k] += (at < bytes.length ? bytes[at] : ' ') * (int) Math.pow(256, 3 - b);
        }
      }
      x.feed(five[0], five[1], five[2], five[3], five[4]);
    }
    check.due("hill", x.hill(80), 1);
    check.due("PLACES", x.size(2), 4);
    check.due("plants", x.plants(1, 0), 8);
    // a byte of 128 and more, in each of the four
    for (int shift = 0; shift < 32; shift += 8) {
      x = new GoatCourt();
      x.feed(0x20202020 ^ 0xa0 << shift, 0x20202020, 0x20202020, 0x20202020, 0x20202020);
      x.hill(20);
      check.due("where() of the byte", x.where(), 3 - shift / 8);
    }
    for (int k = 0; k < 5; k++) {
      int[] five = new int[5];
      Arrays.fill(five, 0x20202020);
      five[k] = 0x2020ff20;
      x = new GoatCourt();
      x.feed(0x20202020, 0x20202020, 0x20202020, 0x20202020, 0x20202020);
      x.feed(five[0], five[1], five[2], five[3], five[4]);
      x.hill(40);
      check.due("where() of the byte", x.where(), 20 + 4 * k + 2);
    }
  }

  private static void hillNumbers() {
    check.by("Promise 3: hill .. NONE: 2 (THE TAPE stays)");
    GoatCourt x = new GoatCourt();
    for (int n : new int[] {-1, 1, 2, 1200, Integer.MIN_VALUE, Integer.MAX_VALUE}) {
      check.refused(x, "hill(" + n + ") of an empty TAPE", x.hill(n), 2);
    }
    String text = "hill hours 2 plants 1;place a 3";
    Check.feed(x, text);
    for (int n : new int[] {-1, 41, 42, 1200, Integer.MIN_VALUE, Integer.MAX_VALUE}) {
      check.refused(x, "hill(" + n + ") of 40", x.hill(n), 2);
      check.due("THE TAPE stays", x.size(14), 40);
      check.due("no HILL", x.size(11), 0);
      check.due("fault()", x.fault(), 0);
      check.due("where()", x.where(), -1);
    }
    check.fine(x, "hill(40), all of it", x.hill(40), 1);
    check.due("THE TAPE is empty then", x.size(14), 0);
    Check.feed(x, text);
    check.fine(x, "hill(31)", x.hill(31), 1);
    check.due("THE TAPE is empty then, the rest too", x.size(14), 0);
    Check.feed(x, text);
    check.refused(x, "hill(30)", x.hill(30), 4);
    check.due("THE TAPE is empty behind a FAULT", x.size(14), 0);
    Check.feed(x, text);
    check.refused(x, "hill(0)", x.hill(0), 4);
    check.due("THE TAPE is empty behind none of it", x.size(14), 0);
    check.due("fault()", x.fault(), 1);
    check.due("where()", x.where(), 0);
    // behind a number more can come
    Check.feed(x, "hill hours 2 plants ");
    check.refused(x, "hill(21)", x.hill(21), 2);
    Check.feed(x, "1;place a 3");
    check.fine(x, "hill(31)", x.hill(31), 1);
    GoatCourt full = new GoatCourt();
    Check.feed(full, (Hills.FULL + " ".repeat(20)).substring(0, 1200));
    check.refused(full, "hill(1201)", full.hill(1201), 2);
    check.fine(full, "hill(1200)", full.hill(1200), 81);
  }

  private static void hillStays() {
    check.by("Promise 3: .. 4 (the HILL stays)");
    GoatCourt x = on(Hills.FULL);
    x.hedge(13, true);
    x.hear(5, false);
    x.mark();
    x.dog(7, 11, true);
    String before = state(x);
    for (int n : new int[] {-1, 1, Integer.MAX_VALUE}) {
      check.refused(x, "hill(" + n + ")", x.hill(n), 2);
      check.due("all stays behind 2", state(x), before);
    }
    String[] faulty = {"", "hill hours 2 plants 1", "hill hours 2 plants 1;place a 1;person p;goat g plain likes a at a trust 1;"};
    for (String text : faulty) {
      check.refused(x, "hill of '" + text + "'", Check.hill(x, text), 4);
      int fault = x.fault();
      check.due("all stays behind 4", state(x), before.substring(0, before.length() - 1) + fault);
      check.due("its paths", x.near(0), 1 << 1 | 1 << 2 | 1 << 6 | 1 << 7);
      check.due("its stories", x.story(3, 2, 11), 5);
      check.due("its law", x.needs(1), 1);
      check.due("its courts", x.appealAt(0), 1);
      check.refused(x, "its HEDGE", x.hedge(13, true), 5);
      Check.hill(x, "x");
    }
    check.fine(x, "undo", x.undo(), true);
    check.fine(x, "back", x.back(0), true);
    check.due("as by the MARK", x.size(13), 1);
  }

  private static void hillAnew() {
    check.by("Promise 3: .. the HILL from now on (no SALT, DOGS, HEDGES; nothing to undo, no MARKS)");
    GoatCourt x = check.taken(Hills.FULL, 81);
    String before = state(x);
    x.salt(0, 1, true);
    x.dog(0, 0, true);
    x.hedge(0, true);
    x.hedge(8, true);
    x.hear(0, false);
    check.due("ACTS change what may be seen", state(x).equals(before), false);
    x.mark();
    x.mark();
    x.mark();
    check.fine(x, "the same HILL anew", Check.hill(x, Hills.FULL), 81);
    check.due("no SALT", Check.put(x, 0, false), Check.THROWS);
    check.due("no DOG", Check.put(x, 0, true), Check.THROWS);
    check.due("nothing to undo", x.size(12), 0);
    check.refused(x, "undo", x.undo(), 6);
    check.due("no MARKS", x.size(13), 0);
    check.refused(x, "back", x.back(0), 1);
    for (int g = 0; g < 6; g++) {
      check.due("HEARD", x.goat(g, 6), 1);
    }
    for (int path = 0; path < 14; path++) {
      check.refused(x, "no HEDGE", x.hedge(path, false), 5);
    }
    check.due("all is as it was at first", state(x), before);
    check.fine(x, "a MARK anew", x.mark(), 0);
    // another HILL: nothing of the one before
    Check.hill(x, "hill hours 2 plants 2;place a 1,0;place b 0,0;person p;fact f;court c costs 7 wins 1;"
        + "goat g plain likes b at a trust 3");
    check.due("plants of the first before", x.plants(0, 1), 0);
    check.due("nothing is fed of the one before", x.plants(1, 1), 0);
    check.due("paths", x.near(0) + x.near(1), 0);
    check.due("stories", x.stories(0), 0);
    check.due("nothing is feared", x.goat(0, 4), 0);
    check.due("CLUES", x.goat(0, 5), 0);
    check.due("its KIND", x.goat(0, 0), 0);
    check.due("its ORDER", x.likes(0, 0), 1);
    check.refused(x, "its ORDER is no longer", x.likes(0, 1), 1);
    check.due("no FACT holds", x.follows(0), 0);
    check.refused(x, "no proof", x.step(), 6);
    check.refused(x, "no cheese", x.cheese(0), 6);
    check.due("costs", x.appeals(), 70L);
    check.due("nothing is eaten", x.ate(0, 0, 0) + x.ate(0, 0, 1), 0);
    check.due("all is left", x.left(0, 0, 0), 1);
  }

  /** All that was told, and what follows of it. */
  private static String told(GoatCourt x) {
    StringBuilder all = new StringBuilder();
    for (int what = 0; what < 15; what++) {
      all.append(x.size(what)).append(' ');
    }
    for (int place = 0; place < x.size(2); place++) {
      all.append(x.near(place)).append(' ');
      for (int plant = 0; plant < x.size(1); plant++) {
        all.append(x.plants(place, plant)).append(' ');
      }
    }
    for (int g = 0; g < x.size(5); g++) {
      for (int what = 0; what < 7; what++) {
        all.append(x.goat(g, what)).append(' ');
      }
      all.append(x.likes(g, 0)).append(x.likes(g, 3)).append(' ').append(x.at(0, g, 1)).append(x.ate(0, g, 0)).append(' ');
    }
    for (int k = 0; k < x.size(6); k++) {
      all.append(x.clue(k, 0)).append(x.clue(k, 1)).append(x.clue(k, 2)).append(x.clue(k, 3)).append(x.isTrue(0, k)).append(' ');
    }
    for (int p = 0; p < x.size(4); p++) {
      all.append(x.stories(p)).append(x.story(p, 0, 0)).append(x.story(p, 2, 1)).append(x.caseOf(x.size(11) - 1, p)).append(' ');
    }
    for (int fact = 0; fact < x.size(7); fact++) {
      all.append(x.follows(fact)).append(x.needs(fact)).append(x.enough(fact)).append(' ');
    }
    for (int i = 0; i < x.size(10); i++) {
      all.append(x.appealAt(i)).append(' ');
    }
    all.append(x.appeals()).append(' ').append(x.step()).append(' ').append(x.cheese(0)).append(' ').append(x.cheeseOf(0));
    return all.append(' ').append(x.fits()).append(' ').append(x.likeliest()).append(' ').append(x.ask()).toString();
  }

  private static void hillsInTurn() {
    check.by("Promise 3: The first n bytes of THE TAPE are the HILL from now on (and nothing of those before, right or faulty)");
    String other = "hill hours 2 plants 3;place q 1,2,3;place r 0,0,1;path q r;person s;story s q,r;story s r;"
        + "goat t billy likes ca at q trust 3;goat u kid t likes b at r trust 4;fears t s;fears u s;seen u q 0;found t c q;fact v;"
        + "fact w;holds w;rule v if w;rule w if v;proof w,v;court y costs 3 wins 3;cheese 1,0,2";
    String less = "hill hours 3 plants 1;place a 1;place b 1;person c;goat d plain likes a at a trust 1;fact e;rule e if e;court f costs 1 wins 2";
    String[] texts = {other, less, Hills.LEAST};
    String[] due = new String[3];
    for (int i = 0; i < 3; i++) {
      due[i] = told(check.taken(texts[i], i == 0 ? 2 : 1));
    }
    String[] faulty = {other + ";", less + ";place g 9;path a g;path g |", other + ";person z;story z q;goat z"};
    for (int first = 0; first < 3; first++) {
      for (int second = 0; second < 3; second++) {
        for (int third = 0; third < 3; third++) {
          GoatCourt x = new GoatCourt();
          Check.hill(x, texts[first]);
          Check.hill(x, texts[second]);
          Check.hill(x, texts[third]);
          check.due("hill " + third + " behind " + first + ", " + second, told(x), due[third]);
          x = new GoatCourt();
          Check.hill(x, texts[first]);
          check.refused(x, "a faulty one", Check.hill(x, faulty[second]), 4);
          check.due("hill " + first + " behind a faulty one", told(x), due[first]);
          Check.hill(x, texts[third]);
          check.due("hill " + third + " behind " + first + " and a faulty one", told(x), due[third]);
        }
      }
    }
    GoatCourt x = new GoatCourt();
    Check.hill(x, Hills.FULL);
    Check.hill(x, Hills.LEAST);
    Check.hill(x, other);
    check.due("behind the full one", told(x), due[0]);
    x = new GoatCourt();
    Check.hill(x, Hills.FULL);
    Check.hill(x, Hills.LEAST);
    Check.hill(x, Hills.FULL);
    check.due("the full one again: PLACES", x.size(2), 8);
    check.due("the full one again: its paths", x.near(0), 1 << 1 | 1 << 2 | 1 << 6 | 1 << 7);
    check.due("the full one again: its last path", x.hedge(13, true), true);
    check.due("the full one again: its CLUES", x.clue(9, 3), 11);
    check.due("the full one again: its law", x.needs(1), 1);
  }

  private static void faultNumbers() {
    check.by("Promise 4: The FAULT of the latest hill() not refused by 2; 0 without one");
    String[] texts = {Hills.LEAST, "hill hour", "hill hours 2 plants 1;path a a", "hill hours 2 plants 1;hill", "hill hours 1",
        Hills.FULL + ";person", "person", "hill hours 2 plants 1;place a 1;goat g plain likes b"};
    GoatCourt x = new GoatCourt();
    check.due("fault() of a new object", x.fault(), 0);
    for (int fault = 0; fault < 8; fault++) {
      x = new GoatCourt();
      check.due("hill", Check.hill(x, texts[fault]), fault == 0 ? 1 : -1);
      check.due("fault()", x.fault(), fault);
      x.hill(1);
      check.due("fault() behind one refused by 2", x.fault(), fault);
      x.fits();
      x.salt(0, 0, true);
      x.trouble();
      check.due("fault() behind other calls", x.fault(), fault);
      check.due("hill", Check.hill(x, texts[7 - fault]), fault == 7 ? 1 : -1);
      check.due("fault() of the latest", x.fault(), 7 - fault);
      check.due("hill", Check.hill(x, Hills.LEAST), 1);
      check.due("fault() without one", x.fault(), 0);
    }
  }

  /** Behind a FAULT: which calls leave where() and trouble(), and which don't. */
  private static void whereAndTrouble() throws Exception {
    check.by("Promise 5: Its place, if the latest call that may be refused was by 4; NONE else");
    GoatCourt x = new GoatCourt();
    check.due("where() of a new object", x.where(), -1);
    check.due("trouble() of a new object", x.trouble(), 0);
    List<String> all = new ArrayList<>(List.of(CALLS));
    for (String bare : BARE) {
      all.add(bare + " ");
    }
    all.add("ledAt cglh7");
    for (String call : all) {
      String[] parts = call.split(" ");
      String sorts = parts.length > 1 ? parts[1] : "";
      for (int wrong = 0; wrong < 2; wrong++) {
        x = new GoatCourt();
        Check.hill(x, Hills.FULL);
        x.salt(0, 0, true);
        x.mark();
        check.refused(x, "a FAULT", Check.hill(x, "   place"), 4);
        check.due("where()", x.where(), 3);
        Object[] arguments = new Object[sorts.length()];
        for (int i = 0; i < arguments.length; i++) {
          arguments[i] = sorts.charAt(i) == 'b' ? (Object) false : (Object) (wrong == 1 ? -1 : 0);
        }
        invoke(METHODS.get(parts[0])[0], x, arguments);
        check.due("where() behind " + parts[0] + Arrays.toString(arguments), x.where(), -1);
        check.due("trouble() isn't 4 behind it", x.trouble() == 4, false);
        check.due("fault() is as it was", x.fault(), 6);
      }
    }
    check.by("Terms IV: those of which a number is told");
    x = new GoatCourt();
    Check.hill(x, "  place");
    for (int i = 0; i < 62; i++) {
      x.feed(0, 0, 0, 0, 0);
      check.due("feed leaves where()", x.where(), 2);
      check.due("feed leaves trouble()", x.trouble(), 4);
    }
    for (int what = -1; what < 16; what++) {
      x.size(what);
      check.due("size leaves where()", x.where(), 2);
      check.due("size leaves trouble()", x.trouble(), 4);
    }
    Check.put(x, 0, true);
    check.due("put leaves where()", x.where(), 2);
    check.due("put leaves trouble()", x.trouble(), 4);
    x.fault();
    x.where();
    x.trouble();
    check.due("fault, where, trouble leave it", x.trouble(), 4);
    check.due("where() again", x.where(), 2);
    check.refused(x, "hill by 2", x.hill(-1), 2);
    check.due("where() behind it", x.where(), -1);
    x = new GoatCourt();
    Check.hill(x, Hills.LEAST);
    x.near(1);
    Check.feed(x, " ");
    x.size(99);
    Check.put(x, 0, false);
    check.due("trouble() is that of near()", x.trouble(), 1);
    x.near(0);
    check.due("trouble() of one that wasn't refused", x.trouble(), 0);
    x.salt(0, 0, true);
    Check.put(x, 0, false);
    check.due("put leaves 0", x.trouble(), 0);
  }

  private static void sizes() {
    check.by("Promise 51: .. NONE for others; 0 for what there isn't");
    GoatCourt x = new GoatCourt();
    GoatCourt full = on(Hills.FULL);
    full.mark();
    for (int what : new int[] {-1, -2, 15, 16, 99, Integer.MIN_VALUE, Integer.MAX_VALUE}) {
      check.due("size(" + what + ") of a new object", x.size(what), -1);
      check.due("size(" + what + ")", full.size(what), -1);
    }
    for (int what = 0; what <= 14; what++) {
      check.due("size(" + what + ") of a new object", x.size(what), 0);
    }
    for (int what = 0; what < 12; what++) {
      check.due("size(" + what + ")", full.size(what), Hills.FULL_SIZES[what]);
    }
    check.due("ACTS that can be undone", full.size(12), 2);
    check.due("MARKS", full.size(13), 1);
    check.due("bytes of THE TAPE", full.size(14), 0);
    full.feed(0, 0, 0, 0, 0);
    check.due("bytes of THE TAPE", full.size(14), 20);
  }

  private static void puts() {
    check.by("Promise 50: NoSuchElementException if there is none such");
    GoatCourt x = new GoatCourt();
    for (int round = 0; round < 2; round++) {
      for (int i : new int[] {0, -1, 1, 4, Integer.MIN_VALUE, Integer.MAX_VALUE}) {
        check.due("put(" + i + ", false)", Check.put(x, i, false), Check.THROWS);
        check.due("put(" + i + ", true)", Check.put(x, i, true), Check.THROWS);
      }
      Check.hill(x, Hills.FULL);
    }
    x.salt(7, 11, true);
    x.dog(0, 0, true);
    check.due("the last PLACE and hour", Check.put(x, 0, false), 711);
    check.due("the first PLACE and hour", Check.put(x, 0, true), 0);
    x.salt(0, 0, true);
    x.salt(0, 11, true);
    x.salt(7, 0, true);
    int[] due = {0, 11, 700, 711};
    for (int i = 0; i < 4; i++) {
      check.due("by PLACES, then hours", Check.put(x, i, false), due[i]);
    }
    for (int i : new int[] {-1, 4, 5, Integer.MIN_VALUE, Integer.MAX_VALUE}) {
      check.due("put(" + i + ", false)", Check.put(x, i, false), Check.THROWS);
    }
    for (int i : new int[] {-1, 1, 2, Integer.MIN_VALUE, Integer.MAX_VALUE}) {
      check.due("put(" + i + ", true)", Check.put(x, i, true), Check.THROWS);
    }
    x.salt(0, 11, false);
    check.due("one taken away", Check.put(x, 1, false), 700);
    check.due("one taken away", Check.put(x, 3, false), Check.THROWS);
    try {
      new GoatCourt().put(0, true);
      check.due("put", "answers", "throws");
    } catch (NoSuchElementException e) {
      check.due("the exception itself", e.getClass(), NoSuchElementException.class);
    }
  }

  private static void manyCalls() {
    check.by("An object is used for at most 512 calls after it has been made");
    GoatCourt x = new GoatCourt();
    int calls = 1 + (Check.feed(x, Hills.FULL) + 19) / 20;
    check.due("hill", x.hill(Hills.FULL.length()), 81);
    Model model = new Model();
    Texts.feed(model, Hills.FULL);
    model.hill(Hills.FULL.length());
    int due = model.fits();
    while (calls < 510) {
      x.salt(calls % 8, calls % 12, true);
      x.fits();
      x.undo();
      calls += 3;
    }
    while (calls < 511) {
      x.undo();
      calls++;
    }
    check.due("the 512th call", x.fits(), due);
  }
}
