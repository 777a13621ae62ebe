import java.util.ArrayList;
import java.util.Collections;
import java.util.List;
import java.util.Random;
import java.util.TreeSet;

/** Makes texts of HILLS by chance, right ones and spoiled ones. */
public final class Texts {
  private static final String[] ODD_NAMES = {"hours", "plants", "plain", "shy", "billy", "kid", "likes", "at", "trust",
      "costs", "wins", "a", "b", "c", "d", "ab", "hil", "hills", "abcdefgh", "zzzzzzzz", "iff", "i"};
  private final Random random;
  private final int size;
  private final List<String> lines = new ArrayList<>();
  private final TreeSet<String> used = new TreeSet<>();
  private final List<List<String>> names = new ArrayList<>();
  private final List<Integer> stories = new ArrayList<>();
  private final TreeSet<String> once = new TreeSet<>();
  private final int hours;
  private final int plants;
  /** What there is much of: 0 nothing, 1 law, 2 courts, 3 people and stories. */
  private final int flavour;
  private final int[] counts = new int[16];

  private static final int PLACE = 0;
  private static final int PERSON = 1;
  private static final int GOAT = 2;
  private static final int FACT = 3;
  private static final int COURT = 4;

  /** size: 0 small ones, 1 middling ones, 2 as large as can be. */
  public Texts(Random random, int size) {
    this.random = random;
    this.size = size;
    hours = size == 2 ? 12 : 2 + random.nextInt(size == 0 ? 4 : 7);
    plants = size == 2 ? 4 : 1 + random.nextInt(size == 0 ? 2 : 4);
    flavour = random.nextInt(6);
    for (int i = 0; i < 5; i++) {
      names.add(new ArrayList<>());
    }
    for (int i = 0; i < 4; i++) {
      stories.add(0);
    }
  }

  /** A right text; CLUES are such as a true CASE would give, most of them. */
  public String text() {
    lines.add("hill hours " + hours + " plants " + plants);
    place();
    int tries = size == 0 ? 30 : size == 1 ? 70 : 160;
    for (int i = 0; i < tries && join(lines).length() < 1080; i++) {
      line();
    }
    String bare = join(lines);
    Model model = new Model();
    feed(model, bare);
    int cases = model.hill(bare.length());
    if (cases < 1) {
      throw new IllegalStateException(bare + " fault " + model.fault() + " at " + model.where());
    }
    int wanted = random.nextInt(size == 0 ? 4 : 11);
    int c = random.nextInt(cases);
    for (int i = 0; i < wanted && !names.get(GOAT).isEmpty(); i++) {
      lines.add(clue(model, c));
    }
    String text = join(lines);
    return text.length() <= 1200 ? text : bare;
  }

  public static void feed(Model model, String text) {
    byte[] bytes = text.getBytes(java.nio.charset.StandardCharsets.ISO_8859_1);
    for (int i = 0; i < bytes.length; i += 20) {
      model.feed(Check.four(bytes, i), Check.four(bytes, i + 4), Check.four(bytes, i + 8), Check.four(bytes, i + 12),
          Check.four(bytes, i + 16));
    }
  }

  private String join(List<String> parts) {
    StringBuilder text = new StringBuilder();
    for (String part : parts) {
      text.append(text.length() == 0 ? "" : ";").append(part);
    }
    return text.toString();
  }

  private String clue(Model model, int c) {
    int g = random.nextInt(names.get(GOAT).size());
    String goat = names.get(GOAT).get(g);
    int hour = random.nextInt(hours);
    int place = random.nextInt(names.get(PLACE).size());
    if (random.nextInt(4) > 0) {
      place = model.at(c, g, hour);
    }
    switch (random.nextInt(3)) {
      case 0:
        return "seen " + goat + " " + names.get(PLACE).get(place) + " " + hour;
      case 1:
        place = random.nextInt(names.get(PLACE).size());
        return "shied " + goat + " " + names.get(PLACE).get(place) + " " + hour;
      default:
        for (int plant = 0; plant < plants; plant++) {
          if (model.drops(c, g, plant, place) > 0) {
            return "found " + goat + " " + (char) ('a' + plant) + " " + names.get(PLACE).get(place);
          }
        }
        return "found " + goat + " " + (char) ('a' + random.nextInt(plants)) + " " + names.get(PLACE).get(place);
    }
  }

  private String name(int sort) {
    String name;
    do {
      if (random.nextInt(6) == 0) {
        name = ODD_NAMES[random.nextInt(ODD_NAMES.length)];
      } else {
        StringBuilder letters = new StringBuilder();
        int n = size == 2 || random.nextInt(4) > 0 ? 1 + random.nextInt(2) : 1 + random.nextInt(8);
        for (int i = 0; i < n; i++) {
          letters.append((char) ('a' + random.nextInt(26)));
        }
        name = letters.toString();
      }
    } while (Model.NO_NAMES.contains(name) || !used.add(name));
    names.get(sort).add(name);
    return name;
  }

  private String any(int sort) {
    return names.get(sort).get(random.nextInt(names.get(sort).size()));
  }

  private boolean has(int sort) {
    return !names.get(sort).isEmpty();
  }

  private void place() {
    if (names.get(PLACE).size() < (size == 0 ? 4 : 8)) {
      StringBuilder line = new StringBuilder();
      for (int i = 0; i < plants; i++) {
        line.append(i == 0 ? " " : ",").append(random.nextInt(3) == 0 ? random.nextInt(10) : random.nextInt(3));
      }
      lines.add("place " + name(PLACE) + line);
    }
  }

  private void line() {
    if (random.nextInt(3) > 0) {
      switch (flavour) {
        case 1 -> law();
        case 2 -> court();
        case 3 -> {
          person();
          story();
        }
        default -> {
        }
      }
    }
    switch (random.nextInt(20)) {
      case 0, 1, 2 -> place();
      case 3, 4, 5, 6 -> path();
      case 7, 8 -> person();
      case 9, 10 -> story();
      case 11, 12 -> goat();
      case 13 -> fears();
      case 14, 15 -> law();
      case 16 -> court();
      case 17 -> cheese();
      default -> path();
    }
  }

  private void court() {
    if (names.get(COURT).size() < 6) {
      lines.add("court " + name(COURT) + " costs " + random.nextInt(random.nextBoolean() ? 100 : 3) + " wins "
          + (1 + random.nextInt(9)));
    }
  }

  private void path() {
    String a = any(PLACE);
    String b = any(PLACE);
    if (counts[0] < 14 && !a.equals(b) && !once.contains("path " + b + " " + a) && once.add("path " + a + " " + b)) {
      counts[0]++;
      lines.add("path " + a + " " + b);
    }
  }

  private void person() {
    if (names.get(PERSON).size() < 4) {
      lines.add("person " + name(PERSON));
    }
  }

  private void story() {
    if (has(PERSON)) {
      int p = random.nextInt(names.get(PERSON).size());
      if (stories.get(p) < 3) {
        stories.set(p, stories.get(p) + 1);
        StringBuilder line = new StringBuilder("story " + names.get(PERSON).get(p) + " " + any(PLACE));
        for (int i = 1 + random.nextInt(hours); i < Math.min(hours, 8); i++) {
          line.append(random.nextBoolean() ? ", " : ",").append(any(PLACE));
        }
        lines.add(line.toString());
      }
    }
  }

  private void goat() {
    if (names.get(GOAT).size() >= 6) {
      return;
    }
    String kind = new String[] {"plain", "shy", "billy", "plain"}[random.nextInt(4)];
    if (has(GOAT) && random.nextInt(3) == 0) {
      kind = "kid " + any(GOAT);
    }
    List<Character> letters = new ArrayList<>();
    for (int i = 0; i < plants; i++) {
      letters.add((char) ('a' + i));
    }
    Collections.shuffle(letters, random);
    StringBuilder order = new StringBuilder();
    for (int i = 0; i <= random.nextInt(plants); i++) {
      order.append(letters.get(i));
    }
    lines.add("goat " + name(GOAT) + " " + kind + " likes " + order + " at " + any(PLACE) + " trust "
        + (1 + random.nextInt(9)));
  }

  private void fears() {
    if (has(GOAT) && has(PERSON) && counts[1] < 8) {
      String line = "fears " + any(GOAT) + " " + any(PERSON);
      if (once.add(line)) {
        counts[1]++;
        lines.add(line);
      }
    }
  }

  private void law() {
    int what = random.nextInt(7);
    if (what <= 1 && names.get(FACT).size() < 8) {
      lines.add("fact " + name(FACT));
    } else if (what == 2 && has(FACT)) {
      String line = "holds " + any(FACT);
      if (once.add(line)) {
        lines.add(line);
      }
    } else if (what >= 4 && names.get(FACT).size() > 1 && counts[2] < 8) {
      counts[2]++;
      TreeSet<String> body = new TreeSet<>();
      for (int i = random.nextInt(3); i >= 0; i--) {
        body.add(any(FACT));
      }
      lines.add("rule " + any(FACT) + " if " + String.join(random.nextBoolean() ? "," : " , ", body));
    } else if (what == 3 && names.get(FACT).size() > 2 && counts[2] > 1 && once.add("proof")) {
      List<String> steps = new ArrayList<>();
      for (int i = random.nextInt(8); i >= 0; i--) {
        String fact = any(FACT);
        // a step that holds, more often than not, so that proofs go on for a while
        steps.add(once.contains("holds " + fact) ? fact : any(FACT));
      }
      lines.add("proof " + String.join(",", steps));
    }
  }

  private void cheese() {
    if (random.nextBoolean() && once.add("cheese")) {
      StringBuilder line = new StringBuilder("cheese ");
      for (int i = 0; i < plants; i++) {
        line.append(i == 0 ? "" : ",").append(random.nextInt(3));
      }
      lines.add(line.toString());
    }
  }

  /** A text with something wrong in it, or not. */
  public static String spoil(String text, Random random) {
    String[] parts = text.split("(?<=[;, ])|(?=[;, ])");
    List<String> tokens = new ArrayList<>(List.of(parts));
    int at = random.nextInt(tokens.size());
    int other = random.nextInt(tokens.size());
    String[] lines = text.split(";");
    String[] words = {"hill", "place", "path", "person", "story", "goat", "fears", "found", "seen", "shied", "fact",
        "holds", "rule", "proof", "court", "cheese", "if", "kid", "0", "1", "10", "13", "99", "100", "999", "1000", "007",
        "abcdefghi", "aa", "ab", "e", "nobody", ",", ";", " ", "A", "-", "\u00e9", "\n", "", "12345"};
    switch (random.nextInt(9)) {
      case 0 -> tokens.remove(at);
      case 1 -> tokens.set(at, words[random.nextInt(words.length)]);
      case 2 -> tokens.add(at, words[random.nextInt(words.length)]);
      case 3 -> tokens.add(at, tokens.get(other));
      case 4 -> Collections.swap(tokens, at, other);
      case 5 -> tokens = new ArrayList<>(tokens.subList(0, at + 1));
      case 6 -> {
        tokens.add(";");
        tokens.add(lines[random.nextInt(lines.length)]);
      }
      case 7 -> {
        for (int i = 0; i < 9; i++) {
          tokens.add(";");
          tokens.add(lines[random.nextInt(lines.length)].replaceFirst("^(place|fact|court|person|goat) \\w+",
              "$1 x" + "abcdefghijk".charAt(i) + "q"));
        }
      }
      default -> {
        StringBuilder s = new StringBuilder(text);
        s.setCharAt(random.nextInt(s.length()), (char) random.nextInt(256));
        return s.toString();
      }
    }
    String spoiled = String.join("", tokens);
    return spoiled.length() <= 1200 ? spoiled : spoiled.substring(0, 1200);
  }
}
