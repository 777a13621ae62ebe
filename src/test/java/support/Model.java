import java.util.ArrayList;
import java.util.HashMap;
import java.util.List;
import java.util.Map;
import java.util.NoSuchElementException;
import java.util.Set;
import java.util.TreeSet;

/**
 * The document once more, as plainly and as slowly as can be, with the library's collections: nothing is
 * kept that can be reckoned anew. It has the calls of GoatCourt, so that both can be asked the same.
 */
public final class Model {
  static final Set<String> NO_NAMES = Set.of("hill", "place", "path", "person", "story", "goat", "fears",
      "found", "seen", "shied", "fact", "holds", "rule", "proof", "court", "cheese", "if");

  private record Token(int at, char sort, String text) {
  }

  private record Name(String sort, int number) {
  }

  private record Clue(String sort, int goat, int place, int what) {
  }

  private record Rule(int head, Set<Integer> body) {
  }


  private record Bite(int hour, int goat, int plant, int count) {
  }

  @SuppressWarnings("serial")
  private static final class Fault extends RuntimeException {
    final int number;
    final int at;

    Fault(int number, int at) {
      this.number = number;
      this.at = at;
    }
  }

  private static final class Goat {
    String kind;
    int mother = -2;
    List<Integer> order = new ArrayList<>();
    int start;
    int trust;
    Set<Integer> fears = new TreeSet<>();
  }

  private static final class World {
    int hours;
    int plants;
    List<int[]> places = new ArrayList<>();
    List<int[]> paths = new ArrayList<>();
    List<List<List<Integer>>> people = new ArrayList<>();
    List<Goat> goats = new ArrayList<>();
    int fears = 0;
    List<Clue> clues = new ArrayList<>();
    int facts = 0;
    Set<Integer> holds = new TreeSet<>();
    List<Rule> rules = new ArrayList<>();
    List<Integer> proof = null;
    List<int[]> courts = new ArrayList<>();
    List<Integer> cheese = null;

    boolean path(int a, int b, Set<Integer> hedges) {
      for (int i = 0; i < paths.size(); i++) {
        int[] p = paths.get(i);
        if (!hedges.contains(i) && (p[0] == a && p[1] == b || p[0] == b && p[1] == a)) {
          return true;
        }
      }
      return false;
    }

    private List<List<Integer>> caseList = null;

    List<List<Integer>> cases() {
      if (caseList == null) {
        caseList = allCases();
      }
      return caseList;
    }

    private List<List<Integer>> allCases() {
      List<List<Integer>> all = new ArrayList<>();
      all.add(new ArrayList<>());
      for (List<List<Integer>> person : people) {
        List<List<Integer>> longer = new ArrayList<>();
        for (List<Integer> c : all) {
          for (int i = 0; i < Math.max(1, person.size()); i++) {
            List<Integer> more = new ArrayList<>(c);
            more.add(person.isEmpty() ? -2 : i);
            longer.add(more);
          }
        }
        all = longer;
      }
      return all;
    }

    int where(int c, int p, int hour) {
      int i = cases().get(c).get(p);
      return i < 0 ? -1 : told(p, i, hour);
    }

    int told(int p, int i, int hour) {
      List<Integer> story = people.get(p).get(i);
      return story.get(Math.min(hour, story.size() - 1));
    }
  }

  private static final class State {
    Set<Integer> salts = new TreeSet<>();
    Set<Integer> dogs = new TreeSet<>();
    Set<Integer> hedges = new TreeSet<>();
    Set<Integer> heard = new TreeSet<>();

    State copy() {
      State s = new State();
      s.salts.addAll(salts);
      s.dogs.addAll(dogs);
      s.hedges.addAll(hedges);
      s.heard.addAll(heard);
      return s;
    }
  }

  private static final class Course {
    int[][] at;
    List<Bite> bites = new ArrayList<>();
    int[] flees;
    int[][] left;
  }

  // ---- the text

  private static final class Parser {
    final List<Token> tokens = new ArrayList<>();
    final Map<String, Name> names = new HashMap<>();
    final World w = new World();
    int i = 0;

    Parser(String text) {
      int at = 0;
      while (at < text.length()) {
        char c = text.charAt(at);
        if (c == ' ') {
          at++;
          continue;
        }
        int end = at + 1;
        char sort = '?';
        if (c >= 'a' && c <= 'z') {
          while (end < text.length() && text.charAt(end) >= 'a' && text.charAt(end) <= 'z') {
            end++;
          }
          sort = end - at <= 8 ? 'w' : '?';
        } else if (c >= '0' && c <= '9') {
          while (end < text.length() && text.charAt(end) >= '0' && text.charAt(end) <= '9') {
            end++;
          }
          sort = end - at <= 3 ? 'n' : '?';
        } else if (c == ';' || c == ',') {
          sort = c;
        }
        tokens.add(new Token(at, sort, text.substring(at, end)));
        at = end;
      }
      tokens.add(new Token(text.length(), '.', ""));
    }

    Token now() {
      return tokens.get(i);
    }

    void need(boolean ok, int number) {
      if (!ok) {
        throw new Fault(number, now().at);
      }
    }

    void word(String text) {
      need(now().sort == 'w' && now().text.equals(text), 1);
      i++;
    }

    boolean comma() {
      if (now().sort == ',') {
        i++;
        return true;
      }
      return false;
    }

    int whole(int least, int most) {
      need(now().sort == 'n', 1);
      int n = Integer.parseInt(now().text);
      need(n >= least && n <= most, 4);
      i++;
      return n;
    }

    void isName() {
      need(now().sort == 'w' && !NO_NAMES.contains(now().text), 1);
    }

    String fresh() {
      isName();
      need(!names.containsKey(now().text), 3);
      return tokens.get(i++).text;
    }

    /** Looks at a NAME, without going on. */
    int peek(String sort) {
      isName();
      Name name = names.get(now().text);
      need(name != null && name.sort.equals(sort), 2);
      return name.number;
    }

    int name(String sort) {
      int n = peek(sort);
      i++;
      return n;
    }

    World parse() {
      boolean first = true;
      do {
        line(first);
        first = false;
        if (now().sort == '.') {
          need(!w.places.isEmpty(), 6);
          return w;
        }
        need(now().sort == ';', 1);
        i++;
      } while (true);
    }

    void line(boolean first) {
      need(now().sort == 'w' && NO_NAMES.contains(now().text) && !now().text.equals("if"), 1);
      String sort = now().text;
      need(first || !sort.equals("hill"), 3);
      need(!first || sort.equals("hill"), 6);
      switch (sort) {
        case "hill" -> {
          i++;
          word("hours");
          w.hours = whole(2, 12);
          word("plants");
          w.plants = whole(1, 4);
        }
        case "place" -> {
          need(w.places.size() < 8, 5);
          i++;
          String n = fresh();
          w.places.add(wholes(9));
          names.put(n, new Name("place", w.places.size() - 1));
        }
        case "path" -> {
          need(w.paths.size() < 14, 5);
          i++;
          int a = name("place");
          int b = peek("place");
          need(a != b && !w.path(a, b, Set.of()), 3);
          i++;
          w.paths.add(new int[] {a, b});
        }
        case "person" -> {
          need(w.people.size() < 4, 5);
          i++;
          names.put(fresh(), new Name("person", w.people.size()));
          w.people.add(new ArrayList<>());
        }
        case "story" -> story();
        case "goat" -> goat();
        case "fears" -> {
          need(w.fears < 8, 5);
          i++;
          Goat g = w.goats.get(name("goat"));
          int p = peek("person");
          need(g.fears.add(p), 3);
          i++;
          w.fears++;
        }
        case "found", "seen", "shied" -> clue(sort);
        case "fact" -> {
          need(w.facts < 8, 5);
          i++;
          names.put(fresh(), new Name("fact", w.facts++));
        }
        case "holds" -> {
          i++;
          int f = peek("fact");
          need(w.holds.add(f), 3);
          i++;
        }
        case "rule" -> {
          need(w.rules.size() < 8, 5);
          i++;
          int head = name("fact");
          word("if");
          w.rules.add(new Rule(head, new TreeSet<>(facts(3, true))));
        }
        case "proof" -> {
          need(w.proof == null, 3);
          i++;
          w.proof = facts(8, false);
        }
        case "court" -> {
          need(w.courts.size() < 6, 5);
          i++;
          String n = fresh();
          word("costs");
          int costs = whole(0, 99);
          word("wins");
          w.courts.add(new int[] {costs, whole(1, 9)});
          names.put(n, new Name("court", w.courts.size() - 1));
        }
        case "cheese" -> {
          need(w.cheese == null, 3);
          i++;
          w.cheese = new ArrayList<>();
          for (int n : wholes(99)) {
            w.cheese.add(n);
          }
        }
        default -> need(false, 1);
      }
    }

    int[] wholes(int most) {
      int[] row = new int[w.plants];
      for (int k = 0; k < w.plants; k++) {
        if (k > 0) {
          need(comma(), 1);
        }
        row[k] = whole(0, most);
      }
      return row;
    }

    void story() {
      i++;
      int p = peek("person");
      need(w.people.get(p).size() < 3, 5);
      i++;
      List<Integer> story = new ArrayList<>();
      do {
        int place = peek("place");
        need(story.size() < w.hours, 5);
        i++;
        story.add(place);
      } while (comma());
      w.people.get(p).add(story);
    }

    List<Integer> facts(int most, boolean unlike) {
      List<Integer> list = new ArrayList<>();
      do {
        int f = peek("fact");
        need(!unlike || !list.contains(f), 3);
        need(list.size() < most, 5);
        i++;
        list.add(f);
      } while (comma());
      return list;
    }

    void goat() {
      need(w.goats.size() < 6, 5);
      i++;
      String n = fresh();
      Goat g = new Goat();
      need(now().sort == 'w' && Set.of("plain", "shy", "billy", "kid").contains(now().text), 1);
      g.kind = now().text;
      i++;
      if (g.kind.equals("kid")) {
        g.mother = name("goat");
      }
      word("likes");
      need(now().sort == 'w', 1);
      for (char c : now().text.toCharArray()) {
        need(c - 'a' < w.plants && !g.order.contains(c - 'a'), 7);
        g.order.add(c - 'a');
      }
      i++;
      word("at");
      g.start = name("place");
      word("trust");
      g.trust = whole(1, 9);
      w.goats.add(g);
      names.put(n, new Name("goat", w.goats.size() - 1));
    }

    void clue(String sort) {
      need(w.clues.size() < 10, 5);
      i++;
      int g = name("goat");
      int plant = -1;
      if (sort.equals("found")) {
        need(now().sort == 'w', 1);
        plant = now().text.charAt(0) - 'a';
        need(now().text.length() == 1 && plant < w.plants, 7);
        i++;
      }
      int place = name("place");
      w.clues.add(new Clue(sort, g, place, plant >= 0 ? plant : whole(0, w.hours - 1)));
    }
  }

  // ---- the state

  private final StringBuilder tape = new StringBuilder();
  private World w = null;
  private State now = new State();
  private final List<State> history = new ArrayList<>();
  private final List<State> marks = new ArrayList<>();
  private int fault = 0;
  private int faultAt = 0;
  private int trouble = 0;

  private int no(int number) {
    trouble = number;
    return -1;
  }

  private int yes(int answer) {
    trouble = 0;
    return answer;
  }

  private boolean does(int number) {
    trouble = number;
    return number == 0;
  }

  private static boolean in(int i, int n) {
    return 0 <= i && i < n;
  }

  private int hours() {
    return w == null ? 0 : w.hours;
  }

  private boolean isCase(int c) {
    return w != null && in(c, w.cases().size());
  }

  private boolean isGoat(int g) {
    return w != null && in(g, w.goats.size());
  }

  private boolean isPlace(int p) {
    return w != null && in(p, w.places.size());
  }

  private boolean isPlant(int p) {
    return w != null && in(p, w.plants);
  }

  private boolean isPerson(int p) {
    return w != null && in(p, w.people.size());
  }

  private boolean isFact(int f) {
    return w != null && in(f, w.facts);
  }

  // ---- a day

  private static boolean fears(World w, State s, int c, int g, int place, int hour) {
    Goat goat = w.goats.get(g);
    if (goat.kind.equals("billy")) {
      return false;
    }
    if (s.dogs.contains(place * 100 + hour)) {
      return true;
    }
    for (int p = 0; p < w.people.size(); p++) {
      if (w.where(c, p, hour) == place && (goat.kind.equals("shy") || goat.fears.contains(p))) {
        return true;
      }
    }
    return false;
  }

  private static int worth(World w, State s, Course d, int g, int place, int hour) {
    if (s.salts.contains(place * 100 + hour)) {
      return 0;
    }
    List<Integer> order = w.goats.get(g).order;
    for (int r = 0; r < order.size(); r++) {
      if (d.left[place][order.get(r)] > 0) {
        return 1 + r;
      }
    }
    return 9;
  }

  private static Course course(World w, State s, int c) {
    Course d = new Course();
    int n = w.goats.size();
    d.at = new int[n][w.hours];
    d.flees = new int[n];
    d.left = new int[w.places.size()][];
    for (int p = 0; p < d.left.length; p++) {
      d.left[p] = w.places.get(p).clone();
    }
    for (int h = 0; h < w.hours; h++) {
      for (int g = 0; g < n; g++) {
        int here = h == 0 ? w.goats.get(g).start : d.at[g][h - 1];
        d.at[g][h] = go(w, s, d, c, g, h, here);
      }
    }
    return d;
  }

  private static int go(World w, State s, Course d, int c, int g, int h, int here) {
    Goat goat = w.goats.get(g);
    if (goat.mother >= 0) {
      int there = d.at[goat.mother][h];
      if (there != here && w.path(here, there, s.hedges)) {
        return there;
      }
    }
    List<Integer> can = new ArrayList<>();
    for (int p = 0; p < w.places.size(); p++) {
      if (w.path(here, p, s.hedges) && !fears(w, s, c, g, p, h)) {
        can.add(p);
      }
    }
    int best = -1;
    for (int p : can) {
      if (best < 0 || worth(w, s, d, g, p, h) < worth(w, s, d, g, best, h)) {
        best = p;
      }
    }
    if (fears(w, s, c, g, here, h)) {
      if (best < 0) {
        return here;
      }
      d.flees[g]++;
      return best;
    }
    int worth = worth(w, s, d, g, here, h);
    if (worth == 0) {
      return here;
    }
    for (int p : can) {
      if (s.salts.contains(p * 100 + h)) {
        return p;
      }
    }
    if (worth < 9) {
      int plant = goat.order.get(worth - 1);
      int count = goat.kind.equals("billy") ? Math.min(2, d.left[here][plant]) : 1;
      d.left[here][plant] -= count;
      d.bites.add(new Bite(h, g, plant, count));
      return here;
    }
    return best >= 0 && worth(w, s, d, g, best, h) < 9 ? best : here;
  }

  private static int ateIn(Course d, int g, int plant) {
    int sum = 0;
    for (Bite b : d.bites) {
      sum += b.goat == g && b.plant == plant ? b.count : 0;
    }
    return sum;
  }

  private static int dropsIn(World w, Course d, int g, int plant, int place) {
    int sum = 0;
    for (Bite b : d.bites) {
      boolean its = b.goat == g && b.plant == plant && b.hour + 2 < w.hours;
      sum += its && d.at[g][b.hour + 2] == place ? b.count : 0;
    }
    return sum;
  }

  private static boolean trueIn(World w, Course d, Clue k) {
    return switch (k.sort) {
      case "found" -> dropsIn(w, d, k.goat, k.what, k.place) > 0;
      case "seen" -> d.at[k.goat][k.what] == k.place;
      default -> d.at[k.goat][k.what] != k.place;
    };
  }

  private List<Course> courses() {
    List<Course> all = new ArrayList<>();
    for (int c = 0; c < w.cases().size(); c++) {
      all.add(course(w, now, c));
    }
    return all;
  }

  /** The CASES in which all CLUES of some goats are TRUE. */
  private List<Integer> cases(List<Course> days, Set<Integer> goats) {
    List<Integer> list = new ArrayList<>();
    for (int c = 0; c < days.size(); c++) {
      boolean all = true;
      for (Clue k : w.clues) {
        all &= !goats.contains(k.goat) || trueIn(w, days.get(c), k);
      }
      if (all) {
        list.add(c);
      }
    }
    return list;
  }

  private List<Integer> fitting() {
    return cases(courses(), now.heard);
  }

  private static Set<Integer> set(int bits) {
    Set<Integer> s = new TreeSet<>();
    for (int i = 0; i < 31; i++) {
      if ((bits >> i & 1) == 1) {
        s.add(i);
      }
    }
    return s;
  }

  private static int bits(Set<Integer> s) {
    int bits = 0;
    for (int i : s) {
      bits |= 1 << i;
    }
    return bits;
  }

  // ---- the calls

  public int feed(int a, int b, int c, int d, int e) {
    if (tape.length() + 20 > 1200) {
      return -1;
    }
    for (int four : new int[] {a, b, c, d, e}) {
      tape.append((char) (four >>> 24)).append((char) (four >>> 16 & 255));
      tape.append((char) (four >>> 8 & 255)).append((char) (four & 255));
    }
    return tape.length();
  }

  public int hill(int n) {
    if (n < 0 || n > tape.length()) {
      return no(2);
    }
    String text = tape.substring(0, n);
    tape.setLength(0);
    try {
      w = new Parser(text).parse();
    } catch (Fault f) {
      fault = f.number;
      faultAt = f.at;
      return no(4);
    }
    fault = 0;
    now = new State();
    for (int g = 0; g < w.goats.size(); g++) {
      now.heard.add(g);
    }
    history.clear();
    marks.clear();
    return yes(w.cases().size());
  }

  public int fault() {
    return fault;
  }

  public int where() {
    return trouble == 4 ? faultAt : -1;
  }

  public int plants(int place, int plant) {
    return isPlace(place) && isPlant(plant) ? yes(w.places.get(place)[plant]) : no(1);
  }

  public int near(int place) {
    if (!isPlace(place)) {
      return no(1);
    }
    int bits = 0;
    for (int p = 0; p < w.places.size(); p++) {
      bits |= w.path(place, p, Set.of()) ? 1 << p : 0;
    }
    return yes(bits);
  }

  public int goat(int g, int what) {
    if (!isGoat(g) || !in(what, 7)) {
      return no(1);
    }
    Goat goat = w.goats.get(g);
    int clues = 0;
    for (Clue k : w.clues) {
      clues += k.goat == g ? 1 : 0;
    }
    return yes(new int[] {List.of("plain", "shy", "billy", "kid").indexOf(goat.kind), goat.mother, goat.start,
        goat.trust, bits(goat.fears), clues, now.heard.contains(g) ? 1 : 0}[what]);
  }

  public int likes(int g, int i) {
    return isGoat(g) && in(i, w.goats.get(g).order.size()) ? yes(w.goats.get(g).order.get(i)) : no(1);
  }

  public int clue(int c, int what) {
    if (w == null || !in(c, w.clues.size()) || !in(what, 4)) {
      return no(1);
    }
    Clue k = w.clues.get(c);
    return yes(new int[] {List.of("found", "seen", "shied").indexOf(k.sort), k.goat, k.place, k.what}[what]);
  }

  public int story(int p, int i, int hour) {
    if (!isPerson(p) || !in(i, w.people.get(p).size())) {
      return no(1);
    }
    return in(hour, w.hours) ? yes(w.told(p, i, hour)) : no(2);
  }

  public int stories(int p) {
    return isPerson(p) ? yes(w.people.get(p).size()) : no(1);
  }

  public int caseOf(int c, int p) {
    return isCase(c) && isPerson(p) ? yes(w.cases().get(c).get(p)) : no(1);
  }

  public int at(int c, int g, int hour) {
    if (!isCase(c) || !isGoat(g)) {
      return no(1);
    }
    return in(hour, w.hours) ? yes(course(w, now, c).at[g][hour]) : no(2);
  }

  public int ate(int c, int g, int plant) {
    return isCase(c) && isGoat(g) && isPlant(plant) ? yes(ateIn(course(w, now, c), g, plant)) : no(1);
  }

  public int drops(int c, int g, int plant, int place) {
    if (!isCase(c) || !isGoat(g) || !isPlant(plant) || !isPlace(place)) {
      return no(1);
    }
    return yes(dropsIn(w, course(w, now, c), g, plant, place));
  }

  public int flees(int c, int g) {
    return isCase(c) && isGoat(g) ? yes(course(w, now, c).flees[g]) : no(1);
  }

  public int left(int c, int place, int plant) {
    return isCase(c) && isPlace(place) && isPlant(plant) ? yes(course(w, now, c).left[place][plant]) : no(1);
  }

  public int met(int c, int g, int p) {
    if (!isCase(c) || !isGoat(g) || !isPerson(p)) {
      return no(1);
    }
    int sum = 0;
    for (int h = 0; h < w.hours; h++) {
      sum += course(w, now, c).at[g][h] == w.where(c, p, h) ? 1 : 0;
    }
    return yes(sum);
  }

  public int isTrue(int c, int clue) {
    if (!isCase(c) || !in(clue, w.clues.size())) {
      return no(1);
    }
    return yes(trueIn(w, course(w, now, c), w.clues.get(clue)) ? 1 : 0);
  }

  public int fits() {
    return w == null ? no(1) : yes(fitting().size());
  }

  public int fit(int i) {
    return w != null && in(i, fitting().size()) ? yes(fitting().get(i)) : no(1);
  }

  public int could(int p, int hour) {
    if (!isPerson(p)) {
      return no(1);
    }
    if (!in(hour, w.hours)) {
      return no(2);
    }
    int bits = 0;
    for (int c : fitting()) {
      bits |= w.where(c, p, hour) < 0 ? 0 : 1 << w.where(c, p, hour);
    }
    return yes(bits);
  }

  public int surely(int p, int hour) {
    int bits = could(p, hour);
    if (bits < 0) {
      return bits;
    }
    for (int place = 0; place < w.places.size(); place++) {
      boolean all = !fitting().isEmpty();
      for (int c : fitting()) {
        all &= w.where(c, p, hour) == place;
      }
      if (all) {
        return yes(place);
      }
    }
    return yes(-2);
  }

  public int lies(int p) {
    if (!isPerson(p)) {
      return no(1);
    }
    Set<Integer> told = new TreeSet<>();
    for (int i = 0; i < w.people.get(p).size(); i++) {
      told.add(i);
    }
    for (int c : fitting()) {
      told.remove(w.cases().get(c).get(p));
    }
    return yes(bits(told));
  }

  public int falseOnes() {
    if (w == null) {
      return no(1);
    }
    List<Course> days = courses();
    for (int size = 0; size <= w.goats.size(); size++) {
      for (int bits = 0; bits < 1 << w.goats.size(); bits++) {
        Set<Integer> rest = new TreeSet<>(now.heard);
        rest.removeAll(set(bits));
        if (set(bits).size() == size && !cases(days, rest).isEmpty()) {
          return yes(bits);
        }
      }
    }
    return yes(-2);
  }

  private int oddsOf(int c) {
    Course d = course(w, now, c);
    int odds = 1;
    for (int g : now.heard) {
      boolean any = false;
      boolean all = true;
      for (Clue k : w.clues) {
        any |= k.goat == g;
        all &= k.goat != g || trueIn(w, d, k);
      }
      if (any) {
        odds *= all ? w.goats.get(g).trust : 10 - w.goats.get(g).trust;
      }
    }
    return odds;
  }

  public int odds(int c) {
    return isCase(c) ? yes(oddsOf(c)) : no(1);
  }

  public int likeliest() {
    if (w == null) {
      return no(1);
    }
    int best = 0;
    for (int c = 0; c < w.cases().size(); c++) {
      best = oddsOf(c) > oddsOf(best) ? c : best;
    }
    return yes(best);
  }

  public int proved(int p, int place, int hour) {
    if (!isPerson(p) || !isPlace(place)) {
      return no(1);
    }
    if (!in(hour, w.hours)) {
      return no(2);
    }
    List<Course> days = courses();
    for (int size = 0; size <= w.goats.size(); size++) {
      for (int bits = 0; bits < 1 << w.goats.size(); bits++) {
        List<Integer> list = cases(days, set(bits));
        boolean all = !list.isEmpty();
        for (int c : list) {
          all &= w.where(c, p, hour) == place;
        }
        if (set(bits).size() == size && all) {
          return yes(bits);
        }
      }
    }
    return yes(-2);
  }

  /** Goat, hour, how many are left at most. */
  private int[] question() {
    List<Integer> fit = fitting();
    if (fit.size() < 2 || w.goats.isEmpty()) {
      return null;
    }
    List<Course> days = courses();
    int[] best = {0, 0, 1000};
    for (int g = 0; g < w.goats.size(); g++) {
      for (int h = 0; h < w.hours; h++) {
        int most = 0;
        for (int place = 0; place < w.places.size(); place++) {
          int count = 0;
          for (int c : fit) {
            count += days.get(c).at[g][h] == place ? 1 : 0;
          }
          most = Math.max(most, count);
        }
        if (most < best[2]) {
          best = new int[] {g, h, most};
        }
      }
    }
    return best;
  }

  public int ask() {
    if (w == null) {
      return no(1);
    }
    int[] q = question();
    return q == null ? no(6) : yes(q[0] * 100 + q[1]);
  }

  public int askMost() {
    if (w == null) {
      return no(1);
    }
    int[] q = question();
    return q == null ? no(6) : yes(q[2]);
  }

  private boolean there(State s, int c, int g, int place, int hour) {
    return course(w, s, c).at[g][hour] == place;
  }

  /** The SALTS, or DOGS, more; null if two aren't enough. */
  private List<Integer> more(int c, int g, int place, int hour, boolean dogs) {
    if (there(now, c, g, place, hour)) {
      return List.of();
    }
    List<Integer> spots = new ArrayList<>();
    for (int p = 0; p < w.places.size(); p++) {
      for (int h = 0; h < w.hours; h++) {
        spots.add(p * 100 + h);
      }
    }
    for (int a : spots) {
      State s = now.copy();
      (dogs ? s.dogs : s.salts).add(a);
      if (there(s, c, g, place, hour)) {
        return List.of(a);
      }
    }
    for (int a : spots) {
      for (int b : spots) {
        State s = now.copy();
        (dogs ? s.dogs : s.salts).add(a);
        (dogs ? s.dogs : s.salts).add(b);
        if (a < b && there(s, c, g, place, hour)) {
          return List.of(a, b);
        }
      }
    }
    return null;
  }

  private int badQuest(int c, int g, int place, int hour) {
    return !isCase(c) || !isGoat(g) || !isPlace(place) ? 1 : !in(hour, w.hours) ? 2 : 0;
  }

  public int led(int c, int g, int place, int hour) {
    if (badQuest(c, g, place, hour) != 0) {
      return no(badQuest(c, g, place, hour));
    }
    List<Integer> salts = more(c, g, place, hour, false);
    return yes(salts == null ? -2 : salts.size());
  }

  public int ledAt(int c, int g, int place, int hour, int i) {
    if (badQuest(c, g, place, hour) != 0) {
      return no(badQuest(c, g, place, hour));
    }
    List<Integer> salts = more(c, g, place, hour, false);
    return salts != null && in(i, salts.size()) ? yes(salts.get(i)) : no(1);
  }

  public int scared(int c, int g, int place, int hour) {
    if (badQuest(c, g, place, hour) != 0) {
      return no(badQuest(c, g, place, hour));
    }
    List<Integer> dogs = more(c, g, place, hour, true);
    return yes(dogs == null ? -2 : dogs.size());
  }

  private Set<Integer> known(Set<Integer> held, int without) {
    Set<Integer> known = new TreeSet<>(held);
    boolean more = true;
    while (more) {
      more = false;
      for (int r = 0; r < w.rules.size(); r++) {
        if (r != without && known.containsAll(w.rules.get(r).body)) {
          more |= known.add(w.rules.get(r).head);
        }
      }
    }
    return known;
  }

  public int follows(int fact) {
    return isFact(fact) ? yes(known(w.holds, -1).contains(fact) ? 1 : 0) : no(1);
  }

  public int step() {
    if (w == null) {
      return no(1);
    }
    if (w.proof == null) {
      return no(6);
    }
    for (int i = 0; i < w.proof.size(); i++) {
      boolean right = w.holds.contains(w.proof.get(i));
      for (Rule r : w.rules) {
        right |= r.head == w.proof.get(i) && w.proof.subList(0, i).containsAll(r.body);
      }
      if (!right) {
        return yes(i);
      }
    }
    return yes(-2);
  }

  public int needs(int fact) {
    if (!isFact(fact)) {
      return no(1);
    }
    if (!known(w.holds, -1).contains(fact)) {
      return yes(-2);
    }
    int bits = 0;
    for (int r = 0; r < w.rules.size(); r++) {
      bits |= known(w.holds, r).contains(fact) ? 0 : 1 << r;
    }
    return yes(bits);
  }

  public int enough(int fact) {
    if (!isFact(fact)) {
      return no(1);
    }
    for (int size = 0; size <= w.facts; size++) {
      for (int bits = 0; bits < 1 << w.facts; bits++) {
        Set<Integer> some = set(bits);
        if (some.size() == size && w.holds.containsAll(some) && known(some, -1).contains(fact)) {
          return yes(bits);
        }
      }
    }
    return yes(-2);
  }

  private List<Integer> cheeses(int c) {
    Course d = course(w, now, c);
    List<Integer> list = new ArrayList<>();
    for (int bits = 0; bits < 1 << w.goats.size(); bits++) {
      boolean all = true;
      for (int plant = 0; plant < w.plants; plant++) {
        int sum = 0;
        for (int g : set(bits)) {
          sum += ateIn(d, g, plant);
        }
        all &= sum == w.cheese.get(plant);
      }
      if (all) {
        list.add(bits);
      }
    }
    return list;
  }

  public int cheese(int c) {
    if (!isCase(c)) {
      return no(1);
    }
    return w.cheese == null ? no(6) : yes(cheeses(c).size());
  }

  public int cheeseOf(int c) {
    if (!isCase(c)) {
      return no(1);
    }
    if (w.cheese == null) {
      return no(6);
    }
    return yes(cheeses(c).isEmpty() ? -2 : cheeses(c).get(0));
  }

  private static void orders(List<Integer> head, int n, List<List<Integer>> into) {
    if (head.size() == n) {
      into.add(head);
    }
    for (int i = 0; i < n; i++) {
      if (!head.contains(i)) {
        List<Integer> more = new ArrayList<>(head);
        more.add(i);
        orders(more, n, into);
      }
    }
  }

  private long costs(List<Integer> order) {
    long sum = 0;
    for (int i = 0; i < order.size(); i++) {
      long part = w.courts.get(order.get(i))[0];
      for (int k = 0; k < order.size(); k++) {
        part *= k < i ? 10 - w.courts.get(order.get(k))[1] : 10;
      }
      sum += part;
    }
    return sum;
  }

  private List<Integer> bestOrder() {
    List<List<Integer>> all = new ArrayList<>();
    orders(List.of(), w.courts.size(), all);
    List<Integer> best = all.get(0);
    for (List<Integer> order : all) {
      best = costs(order) < costs(best) ? order : best;
    }
    return best;
  }

  public long appeals() {
    if (w == null) {
      return no(1);
    }
    trouble = 0;
    return costs(bestOrder());
  }

  public int appealAt(int i) {
    return w != null && in(i, w.courts.size()) ? yes(bestOrder().get(i)) : no(1);
  }

  private void act() {
    history.add(now.copy());
    if (history.size() > 16) {
      history.remove(0);
    }
  }

  private boolean turn(Set<Integer> set, int i, boolean is, int room) {
    if (set.contains(i) == is) {
      return does(5);
    }
    if (is && set.size() >= room) {
      return does(3);
    }
    act();
    if (is) {
      set.add(i);
    } else {
      set.remove(i);
    }
    return does(0);
  }

  public boolean salt(int place, int hour, boolean is) {
    if (!isPlace(place)) {
      return does(1);
    }
    return in(hour, w.hours) ? turn(now.salts, place * 100 + hour, is, 4) : does(2);
  }

  public boolean dog(int place, int hour, boolean is) {
    if (!isPlace(place)) {
      return does(1);
    }
    return in(hour, w.hours) ? turn(now.dogs, place * 100 + hour, is, 4) : does(2);
  }

  public boolean hedge(int path, boolean is) {
    return w != null && in(path, w.paths.size()) ? turn(now.hedges, path, is, 99) : does(1);
  }

  public boolean hear(int g, boolean is) {
    return isGoat(g) ? turn(now.heard, g, is, 99) : does(1);
  }

  public boolean undo() {
    if (history.isEmpty()) {
      return does(6);
    }
    now = history.remove(history.size() - 1);
    return does(0);
  }

  public int mark() {
    if (w == null) {
      return no(1);
    }
    if (marks.size() == 3) {
      return no(3);
    }
    marks.add(now.copy());
    return yes(marks.size() - 1);
  }

  public boolean back(int mark) {
    if (!in(mark, marks.size())) {
      return does(1);
    }
    now = marks.get(mark).copy();
    history.clear();
    return does(0);
  }

  public int put(int i, boolean dogs) {
    List<Integer> list = new ArrayList<>(dogs ? now.dogs : now.salts);
    if (!in(i, list.size())) {
      throw new NoSuchElementException();
    }
    return list.get(i);
  }

  public int size(int what) {
    if (what == 14) {
      return tape.length();
    }
    if (w == null) {
      return in(what, 15) ? 0 : -1;
    }
    return switch (what) {
      case 0 -> hours();
      case 1 -> w.plants;
      case 2 -> w.places.size();
      case 3 -> w.paths.size();
      case 4 -> w.people.size();
      case 5 -> w.goats.size();
      case 6 -> w.clues.size();
      case 7 -> w.facts;
      case 8 -> w.rules.size();
      case 9 -> w.proof == null ? 0 : w.proof.size();
      case 10 -> w.courts.size();
      case 11 -> w.cases().size();
      case 12 -> history.size();
      case 13 -> marks.size();
      default -> -1;
    };
  }

  public int trouble() {
    return trouble;
  }
}
