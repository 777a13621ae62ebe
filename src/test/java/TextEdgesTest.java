import java.util.ArrayList;
import java.util.LinkedHashMap;
import java.util.List;
import java.util.Map;
import java.util.Set;

/**
 * Terms I, sentence by sentence: the least and the greatest that is taken and the next on each side, as much as there is room
 * for and one more, and each FAULT at its place. In a text | stands ahead of the place at which a FAULT is due.
 */
public final class TextEdgesTest {
  private static final Check check = new Check();
  private static final String START = "hill hours 3 plants 2;";

  /** One of each sort, and some more, so that any LINE may come behind. */
  private static final String ALL = START + "place pl 1,1;place pm 1,1;person pe;goat go plain likes a at pl trust 5;"
      + "fact fa;fact fb;fact fc;fact fd;court co costs 1 wins 1;";

  /** A NAME of each sort that ALL tells. */
  private static final Map<Character, String> TOLD = told();

  /** LINES behind ALL, by TOKENS; | stands where a LINE may end. */
  private static final String[] LINES = {"place nw 1 , 2 |", "path pl pm |", "person nw |", "story pe pl | , pm | , pl |",
      "goat nw plain likes a at pl trust 5 |", "goat nw shy likes b at pl trust 1 |", "goat nw billy likes ba at pm trust 9 |",
      "goat nw kid go likes ab at pl trust 5 |", "fears go pe |", "found go a pl |", "seen go pl 2 |", "shied go pl 0 |",
      "fact nw |", "holds fa |", "rule fa if fb | , fc | , fd |",
      "proof fa | , fb | , fc | , fd | , fa | , fb | , fc | , fd |", "court nw costs 99 wins 9 |", "cheese 1 , 2 |"};

  private static final Set<String> FIXED = Set.of("hill", "hours", "plants", "likes", "at", "trust", "costs", "wins", "if",
      "plain", "shy", "billy", "kid");

  /** Where a NAME must stand: what is ahead of it, the sort (Place, pErson, Goat, Fact), one that is right, what is behind. */
  private static final String[][] USES = {{"path ", "p", "pl", " pm"}, {"path pl ", "p", "pm", ""}, {"story ", "e", "pe", " pl"},
      {"story pe ", "p", "pl", ""}, {"story pe pl,", "p", "pm", ""}, {"story pe pl,pl,", "p", "pm", ""},
      {"goat nw kid ", "g", "go", " likes a at pl trust 1"}, {"goat nw plain likes a at ", "p", "pl", " trust 1"},
      {"fears ", "g", "go", " pe"}, {"fears go ", "e", "pe", ""}, {"found ", "g", "go", " a pl"}, {"found go a ", "p", "pl", ""},
      {"seen ", "g", "go", " pl 0"}, {"seen go ", "p", "pl", " 0"}, {"shied ", "g", "go", " pl 0"}, {"shied go ", "p", "pl", " 0"},
      {"holds ", "f", "fa", ""}, {"rule ", "f", "fa", " if fb"}, {"rule fa if ", "f", "fb", ""}, {"rule fa if fb,", "f", "fc", ""},
      {"rule fa if fb,fc,", "f", "fd", ""}, {"proof ", "f", "fa", ""}, {"proof fa,", "f", "fb", ""},
      {"proof fa,fa,fa,fa,fa,fa,fa,", "f", "fb", ""}};

  /** Where a NAME is told: what is ahead of it and behind it. */
  private static final String[][] TELLS = {{"place ", " 1,1"}, {"person ", ""}, {"goat ", " plain likes a at pl trust 1"},
      {"fact ", ""}, {"court ", " costs 1 wins 1"}};

  public static void main(String[] args) {
    tape();
    blanks();
    words();
    wholes();
    signs();
    lineByLine();
    forms();
    hillAhead();
    hoursAndPlants();
    places();
    paths();
    people();
    stories();
    goats();
    kinds();
    orders();
    fears();
    cluesRoom();
    clueHours();
    cluePlants();
    facts();
    holding();
    rules();
    proofs();
    courts();
    cheeses();
    reservedWords();
    toldOnce();
    aheadOfItsUse();
    otherSorts();
    namesAsWords();
    allNames();
    sortsInTurn();
    firstFromTheLeft();
    leastNumber();
    theEnd();
    lacks();
    allAtOnce();
    check.end();
  }

  private static Map<Character, String> told() {
    Map<Character, String> names = new LinkedHashMap<>();
    names.put('p', "pl");
    names.put('e', "pe");
    names.put('g', "go");
    names.put('f', "fa");
    names.put('c', "co");
    return names;
  }

  private static String times(String part, int n) {
    return part.repeat(n);
  }

  /** Texts of which | and a number stands for a WHOLE: taken from least to most, FAULT 4 beside. */
  private static void bounds(String ahead, String behind, int least, int most) {
    for (int n : new int[] {least, least + 1, most - 1, most}) {
      check.taken(ahead + n + behind, 1);
    }
    for (int n : new int[] {most + 1, most + 10, 999}) {
      check.faulty(ahead + "|" + n + behind, 4);
    }
    for (int n = 0; n < least; n++) {
      check.faulty(ahead + "|" + n + behind, 4);
      check.faulty(ahead + "|00" + n + behind, 4);
    }
    check.taken(ahead + "0" + least + behind, 1);
    check.faulty(ahead + "|-1" + behind, 1);
    check.faulty(ahead + "|1000" + behind, 1);
    check.faulty(ahead + "|0001" + behind, 1);
  }

  /** As many LINES as there is room for are taken, and counted by size(what); of one more its first WORD is FAULT 5. */
  private static void room(String base, List<String> lines, String word, int what) {
    String full = base + String.join(";", lines);
    GoatCourt x = new GoatCourt();
    check.due("hill of '" + full + "' (fault " + x.fault() + ")", Check.hill(x, full) > 0, true);
    check.due("size(" + what + ") of '" + full + "'", x.size(what), lines.size());
    check.faulty(full + ";|" + word, 5);
    check.faulty(full + ";  |" + word + " if", 5);
    check.faulty(full + ";|" + lines.get(0), 5);
    GoatCourt y = new GoatCourt();
    String less = base + String.join(";", lines.subList(0, lines.size() - 1));
    check.due("hill of '" + less + "'", Check.hill(y, less) > 0, true);
    check.due("size(" + what + ") of '" + less + "'", y.size(what), lines.size() - 1);
  }

  private static List<String> numbered(int n, String ahead, String behind) {
    List<String> lines = new ArrayList<>();
    for (int i = 0; i < n; i++) {
      lines.add(ahead + "n" + (char) ('a' + i) + behind);
    }
    return lines;
  }

  private static void tape() {
    check.by("THE TAPE has 1,200 bytes");
    String start = "hill hours 2 plants 1;place a 1;";
    String blanks = times(" ", 1200);
    String last = (start + blanks).substring(0, 1200 - 9) + "place b 7";
    GoatCourt x = check.taken(last, 1);
    check.due("the last byte counts", x.plants(1, 0), 7);
    check.faultAt(last.substring(0, 1199) + "A", 1, 1199);
    check.faultAt((start + blanks).substring(0, 1200), 1, 1200);
    check.faultAt(last.substring(0, 1199) + ";", 1, 1199);
    check.faultAt(last.substring(0, 1199) + " ", 1, 1200);
    // the first byte, and the first of each number
    check.faultAt("A" + start, 1, 0);
    x = new GoatCourt();
    Check.feed(x, last);
    check.due("a tape that is full", x.feed(0x20202020, 0x20202020, 0x20202020, 0x20202020, 0x20202020), -1);
    check.due("none comes", x.size(14), 1200);
    check.due("it is as it was", x.hill(1200), 1);
    check.due("the last byte is as it was", x.plants(1, 0), 7);
  }

  private static void blanks() {
    check.by("blanks, 32, part TOKENS and mean nothing else");
    check.taken("hill hours 2 plants 1;place a 1", 1);
    check.taken("    hill    hours    2    plants    1    ;    place    a    1    ", 1);
    check.taken("hill hours2plants1;place a1", 1);
    check.taken("hill hours 2 plants 2;place a1,1", 1);
    check.taken("hill hours 2 plants 2;place a 1 , 1", 1);
    check.faulty("|hillhours 2 plants 1;place a 1", 1);
    check.faulty("|hil l hours 2 plants 1;place a 1", 1);
    check.faulty("hill hours 2 |2 plants 1;place a 1", 1);
    check.faulty("hill hours 2 plants 1;place a |b 1", 1);
    for (int sign : new int[] {0, 9, 10, 11, 12, 13, 31, 127, 160, 255}) {
      check.faulty("hill hours 2 plants 1;|" + (char) sign + "place a 1", 1);
    }
  }

  private static void words() {
    check.by("WORDS of 1 to 8 small letters that stand together");
    check.taken(START + "place a 1,1;place z 1,1;path a z", 1);
    check.taken(START + "place abcdefgh 1,1;place abcdefgi 1,1;path abcdefgh abcdefgi", 1);
    check.taken(START + "place zzzzzzzz 1,1;place zzzzzzz 1,1;place az 1,1;place ba 1,1;path zzzzzzzz zzzzzzz;path az ba", 1);
    check.faulty(START + "place |abcdefghi 1,1", 1);
    check.faulty(START + "place |" + times("a", 64) + " 1,1", 1);
    check.faulty("|hillhillh hours 2 plants 1", 1);
    check.faulty("hill |hourshour 2 plants 1", 1);
    check.faulty(ALL + "|placeplace nw 1,1", 1);
    check.faulty(ALL + "goat nw |plainplain likes a at pl trust 1", 1);
    check.faulty(ALL + "goat nw plain likes |ababababa at pl trust 1", 1);
    check.faulty(ALL + "found go |aaaaaaaaa pl", 1);
    check.faulty(ALL + "path |plplplplp pm", 1);
  }

  private static void wholes() {
    check.by("WHOLES of 1 to 3 digits that do");
    check.taken("hill hours 2 plants 1;place a 0", 1);
    check.taken("hill hours 02 plants 01;place a 09", 1);
    GoatCourt x = check.taken("hill hours 012 plants 004;place a 009,000,001,002;court c costs 099 wins 009", 1);
    check.due("hours", x.size(0), 12);
    check.due("plants", x.size(1), 4);
    check.due("of the first", x.plants(0, 0), 9);
    check.due("of the second", x.plants(0, 1), 0);
    check.due("of the last", x.plants(0, 3), 2);
    check.due("costs", x.appeals(), 990L);
    check.faulty("hill hours |0002 plants 1;place a 0", 1);
    check.faulty("hill hours 2 plants |0001;place a 0", 1);
    check.faulty("hill hours 2 plants 1;place a |0000", 1);
    check.faulty("hill hours 2 plants 1;place a |4294967297", 1);
    check.faulty("hill hours 2 plants 1;|" + times("1", 40), 1);
  }

  private static void signs() {
    check.by("the first byte that begins no TOKEN");
    for (int sign = 0; sign < 256; sign++) {
      boolean begins = sign == ' ' || sign == ';' || sign == ',' || sign >= '0' && sign <= '9' || sign >= 'a' && sign <= 'z';
      if (!begins) {
        String text = START + "place a 1,1";
        check.faultAt((char) sign + text, 1, 0);
        check.faultAt(text + (char) sign, 1, text.length());
        check.faultAt(START + (char) sign + "place a 1,1", 1, START.length());
      }
    }
    // a sign in the midst of a WORD or of a WHOLE ends it
    check.faulty("hill|- hours 2 plants 1", 1);
    check.faulty("hill hours 2|.5 plants 1;place a 0", 1);
    check.faulty(START + "place a|B 1,1", 1);
    check.faulty(START + "place a|_b 1,1", 1);
    check.faulty(START + "place b 1|a,1", 1);
  }

  private static void lineByLine() {
    check.by("LINE {; LINE}");
    check.faulty("|;hill hours 2 plants 1;place a 1", 1);
    check.faulty("hill hours 2 plants 1;|;place a 1", 1);
    check.faulty("hill hours 2 plants 1;place a 1;|", 1);
    check.faulty("hill hours 2 plants 1;place a 1;|;", 1);
    check.faulty("hill hours 2 plants 1 |place a 1", 1);
    check.faulty("hill hours 2 plants 1|,place a 1", 1);
    check.taken("hill hours 2 plants 1;place a 1;place b 1", 1);
    for (String line : LINES) {
      String bare = line.replace(" |", "");
      check.taken(ALL + bare, 1);
      check.taken(ALL + bare + ";place ow 0,0", 1);
      check.taken(ALL + bare.replace(" ", "   ") + "  ", 1);
      check.taken(ALL + bare.replace(" , ", ","), 1);
      check.faulty(ALL + bare + " |place ow 0,0", 1);
    }
  }

  /** Behind each TOKEN of each LINE: the end, and TOKENS of other sorts than must stand there. */
  private static void forms() {
    check.by("TOKEN with which no HILL goes on (the end: its place)");
    for (String line : LINES) {
      String[] tokens = line.split(" ");
      String ahead = ALL;
      boolean mayEnd = false;
      for (int i = 0; i < tokens.length; i++) {
        if (tokens[i].equals("|")) {
          mayEnd = true;
          check.taken(ahead, 1);
        } else {
          wrongBehind(ahead, tokens[i], i == 0, mayEnd);
          ahead += i == 0 ? tokens[i] : " " + tokens[i];
          mayEnd = false;
        }
      }
      // a comma behind as many PLACES or FACTS as there may be is right: the next one is too many
      wrongBehind(ahead, line.contains("| ,") ? "," : "", false, true);
    }
    String[] hill = {"hill", "hours", "3", "plants", "2"};
    String ahead = "";
    for (int i = 0; i < hill.length; i++) {
      wrongBehind(ahead, hill[i], false, false);
      ahead += i == 0 ? hill[i] : " " + hill[i];
    }
  }

  /** due: the TOKEN that could go on, or none. */
  private static void wrongBehind(String ahead, String due, boolean first, boolean mayEnd) {
    char sort = due.isEmpty() ? '.' : due.charAt(0);
    boolean isWhole = sort >= '0' && sort <= '9';
    boolean isFixed = first || FIXED.contains(due);
    boolean isWord = sort >= 'a' && sort <= 'z' && !isFixed;
    if (!mayEnd) {
      check.faulty(ahead + "|", 1);
      check.faulty(ahead + "   |", 1);
      check.faulty(ahead + " |;", 1);
    }
    if (sort != ',') {
      check.faulty(ahead + " |,", 1);
    }
    if (!isWhole) {
      check.faulty(ahead + " |7", 1);
      check.faulty(ahead + " |007", 1);
    }
    if (!isWord) {
      check.faulty(ahead + " |zz", 1);
      check.faulty(ahead + " |" + (due.equals("if") ? "iff" : "if"), 1);
    }
    if (isFixed && !first) {
      check.faulty(ahead + " |" + due + "x", 1);
      check.faulty(ahead + " |" + due.substring(1), 1);
      check.faulty(ahead + " |" + due.substring(0, due.length() - 1), 1);
    }
    check.faulty(ahead + " |A", 1);
    check.faulty(ahead + " |.", 1);
    check.faulty(ahead + " |abcdefghi", 1);
    check.faulty(ahead + " |1234", 1);
  }

  private static void hillAhead() {
    check.by("hill .. ahead of all others; LACKS: any LINE ahead of the hill; at its WORD");
    for (String word : Hills.RESERVED) {
      if (!word.equals("hill") && !word.equals("if")) {
        check.faulty("|" + word, 6);
        check.faulty("|" + word + " a;hill hours 2 plants 1;place a 1", 6);
        check.faulty("     |" + word + " ;", 6);
        check.faulty("|" + word + "A", 6);
      }
    }
    check.faulty("|place a 1;hill hours 2 plants 1", 6);
    check.by("a second hill: at that WORD");
    check.faulty("hill hours 2 plants 1;|hill", 3);
    check.faulty("hill hours 2 plants 1;|hill hours 2 plants 1;place a 1", 3);
    check.faulty(ALL + "|hill hours 99 plants 99", 3);
    check.faulty(Hills.FULL + ";|hill", 3);
  }

  private static void hoursAndPlants() {
    check.by("hill hours WHOLE plants WHOLE (2 .. 12, 1 .. 4)");
    bounds("hill hours ", " plants 1;place a 1", 2, 12);
    for (int hours = 2; hours <= 12; hours++) {
      check.due("hours", check.taken("hill hours " + hours + " plants 1;place a 1", 1).size(0), hours);
    }
    String amounts = "";
    for (int plants = 1; plants <= 4; plants++) {
      amounts += plants == 1 ? "1" : ",1";
      check.due("plants", check.taken("hill hours 2 plants " + plants + ";place a " + amounts, 1).size(1), plants);
    }
    check.faulty("hill hours 2 plants |0;place a 1", 4);
    check.faulty("hill hours 2 plants |5;place a 1,1,1,1,1", 4);
    check.faulty("hill hours 2 plants |999", 4);
    check.faulty("hill hours |0 plants 0", 4);
    check.faulty("hill hours |13 plants 5", 4);
  }

  private static void places() {
    check.by("place NAME WHOLE {, WHOLE} (of each plant how many, 0 .. 9, as many WHOLES as plants; up to 8)");
    bounds("hill hours 2 plants 1;place a ", "", 0, 9);
    for (int plants = 1; plants <= 4; plants++) {
      String hill = "hill hours 2 plants " + plants + ";place a 3";
      for (int given = 1; given <= 5; given++) {
        if (given == plants) {
          check.taken(hill, 1);
          bounds(hill.substring(0, hill.length() - 1), ";place b " + "5" + times(",5", plants - 1), 0, 9);
        } else if (given < plants) {
          check.faulty(hill + "|", 1);
          check.faulty(hill + "|;place b 1", 1);
          check.faulty(hill + " |4", 1);
        } else if (given == plants + 1) {
          check.faulty(hill.substring(0, hill.length() - 2) + "|,3", 1);
          check.faulty(hill.substring(0, hill.length() - 2) + " |, 10", 1);
        }
        hill += ",3";
      }
    }
    room("hill hours 2 plants 1;", numbered(8, "place ", " 1"), "place", 2);
    GoatCourt x = check.taken("hill hours 2 plants 4;place a 9,0,9,0;place b 0,9,0,9", 1);
    for (int plant = 0; plant < 4; plant++) {
      check.due("of each plant how many", x.plants(0, plant), plant % 2 == 0 ? 9 : 0);
      check.due("of each plant how many", x.plants(1, plant), plant % 2 == 0 ? 0 : 9);
    }
  }

  private static void paths() {
    check.by("path PLACE PLACE (unlike; once in whatever order; up to 14)");
    String places = "hill hours 2 plants 1;" + String.join(";", numbered(8, "place ", " 1")) + ";";
    List<String> paths = new ArrayList<>();
    for (int a = 0; a < 8 && paths.size() < 14; a++) {
      for (int b = 7; b > a && paths.size() < 14; b--) {
        paths.add("path n" + (char) ('a' + a) + " n" + (char) ('a' + b));
      }
    }
    room(places, paths, "path", 3);
    check.faulty(places + String.join(";", paths) + ";|path nh ng", 5);
    check.faulty(places + String.join(";", paths) + ";|path na na", 5);
    check.faulty(places + String.join(";", paths.subList(0, 13)) + ";path nh |na", 3);
    check.by("a second PLACE that is the first, or to which there is a path already: at it");
    check.faulty(places + "path na |na", 3);
    check.faulty(places + "path nh |nh", 3);
    check.faulty(places + "path na nb;path na |nb", 3);
    check.faulty(places + "path na nb;path nb |na", 3);
    check.faulty(places + "path nh na;path na nb;path na |nh", 3);
    check.taken(places + "path na nb;path nb nc;path nc na", 1);
  }

  private static void people() {
    check.by("person NAME (up to 4)");
    room("hill hours 2 plants 1;place a 1;", numbered(4, "person ", ""), "person", 4);
    check.taken("hill hours 2 plants 1;place a 1;person p", 1);
  }

  private static void stories() {
    check.by("story PERSON PLACE {, PLACE} (hour by hour, the last one from then on; up to as many as hours; up to 3 of one)");
    for (int hours = 2; hours <= 12; hours++) {
      String hill = "hill hours " + hours + " plants 1;place a 1;place b 1;person p;story p a";
      for (int told = 1; told <= hours; told++) {
        GoatCourt x = check.taken(hill, 1);
        for (int hour = 0; hour < hours; hour++) {
          check.due("story of " + told + " in hour " + hour, x.story(0, 0, hour), Math.min(hour, told - 1) % 2);
        }
        hill += told % 2 == 1 ? ",b" : ",a";
      }
      check.by("a PLACE too many in a LINE: at it");
      int comma = hill.lastIndexOf(',');
      check.faulty(hill.substring(0, comma) + ",|a", 5);
      check.faulty(hill.substring(0, comma) + ",|b,a,b", 5);
      check.faulty(hill.substring(0, comma) + ", |nobody", 2);
      check.faulty(hill.substring(0, comma) + ",|p", 2);
      check.faulty(hill.substring(0, comma) + ",|if", 1);
      check.faulty(hill.substring(0, comma) + ",|1", 1);
      check.faulty(hill.substring(0, comma) + ",|;", 1);
      check.faulty(hill.substring(0, comma) + ",|", 1);
    }
    check.by("a fourth story: at PERSON");
    String people = "hill hours 2 plants 1;place a 1;person p;person q;person r;person s";
    int cases = 1;
    String text = people;
    for (char p = 'p'; p <= 's'; p++) {
      for (int i = 1; i <= 3; i++) {
        text += ";story " + p + " a";
        check.taken(text, cases * i);
      }
      cases *= 3;
      check.faulty(text + ";story |" + p + " a", 5);
      check.faulty(text + ";story   |" + p, 5);
      check.faulty(text + ";story |" + p + " if", 5);
      check.faulty(people + times(";story " + p + " a", 3) + ";story " + (p == 's' ? 'p' : 's') + " a;story |" + p, 5);
    }
  }

  private static void goats() {
    check.by("goat NAME KIND likes ORDER at PLACE trust WHOLE (1 .. 9 tenths; up to 6)");
    bounds(ALL + "goat nw plain likes a at pl trust ", "", 1, 9);
    bounds(ALL + "goat nw kid go likes a at pl trust ", ";fact fe", 1, 9);
    room("hill hours 2 plants 1;place a 1;", numbered(6, "goat ", " plain likes a at a trust 1"), "goat", 5);
    for (int trust = 1; trust <= 9; trust++) {
      check.due("trust", check.taken(ALL + "goat nw shy likes a at pl trust " + trust, 1).goat(1, 3), trust);
    }
  }

  private static void kinds() {
    check.by("KIND: plain, shy, billy, or kid GOAT");
    String[] kinds = {"plain", "shy", "billy", "kid go"};
    for (int kind = 0; kind < 4; kind++) {
      // behind a goat of another kind, so that nothing is left of it
      GoatCourt x = check.taken(ALL + "goat nv billy likes b at pm trust 1;goat nw " + kinds[kind] + " likes a at pl trust 1", 1);
      check.due("its KIND", x.goat(2, 0), kind);
      check.due("its mother", x.goat(2, 1), kind == 3 ? 0 : -2);
    }
    check.faulty(ALL + "goat nw |Plain likes a at pl trust 1", 1);
    check.faulty(ALL + "goat nw |go likes a at pl trust 1", 1);
    check.faulty(ALL + "goat nw plain |go likes a at pl trust 1", 1);
    check.faulty(ALL + "goat nw kid |likes a at pl trust 1", 2);
    check.faulty(ALL + "goat nw kid go |go likes a at pl trust 1", 1);
    // no goat is its own mother: she is told ahead, and goes ahead
    check.faulty(ALL + "goat nw kid |nw likes a at pl trust 1", 2);
    GoatCourt x = check.taken(ALL + "goat nu kid go likes a at pl trust 1;goat nv kid go likes a at pl trust 1;"
        + "goat nw kid nv likes a at pl trust 1", 1);
    check.due("a mother of two", x.goat(1, 1) + x.goat(2, 1), 0);
    check.due("a kid's kid", x.goat(3, 1), 2);
  }

  private static void orders() {
    check.by("ORDER: a WORD of plants, unlike, the most liked first; an ORDER with a letter that is no plant, or one twice: at it");
    String[] most = {"a", "ba", "cab", "bdac"};
    for (int plants = 1; plants <= 4; plants++) {
      String hill = "hill hours 2 plants " + plants + ";place u 1" + times(",1", plants - 1) + ";goat g plain likes ";
      for (int n = 1; n <= plants; n++) {
        String order = most[plants - 1].substring(0, n);
        GoatCourt x = check.taken(hill + order + " at u trust 1", 1);
        for (int i = 0; i < n; i++) {
          check.due("likes(0, " + i + ") of " + order, x.likes(0, i), order.charAt(i) - 'a');
        }
        check.refused(x, "likes(0, " + n + ") of " + order, x.likes(0, n), 1);
        check.faulty(hill + "|" + order + order.charAt(0) + " at u trust 1", 7);
        check.faulty(hill + "|" + order + order.charAt(n - 1) + " at u trust 1", 7);
        check.faulty(hill + "|" + order + (char) ('a' + plants) + " at u trust 1", 7);
        check.faulty(hill + "|" + (char) ('a' + plants) + order + " at u trust 1", 7);
      }
      check.taken(hill + (char) ('a' + plants - 1) + " at u trust 1", 1);
      check.faulty(hill + "|" + (char) ('a' + plants) + " at u trust 1", 7);
      check.faulty(hill + "|z at u trust 1", 7);
      check.faulty(hill + "|aaaaaaaa at u trust 1", 7);
      check.faulty(hill + "|aaaaaaaaa at u trust 1", 1);
      check.faulty(hill + "|1 at u trust 1", 1);
    }
    // ORDERS are no NAMES: neither told ones nor the WORDS that are none matter
    for (String word : Hills.RESERVED) {
      check.faulty(ALL + "goat nw plain likes |" + word, 7);
    }
    check.taken(START + "place ab 1,1;goat a plain likes ab at ab trust 1;goat b plain likes a at ab trust 1", 1);
  }

  private static void fears() {
    check.by("fears GOAT PERSON (once; up to 8)");
    String base = "hill hours 2 plants 1;place a 1;person p;person q;person r;person s;"
        + String.join(";", numbered(6, "goat ", " shy likes a at a trust 1")) + ";";
    List<String> lines = new ArrayList<>();
    for (String goat : new String[] {"na", "nf"}) {
      for (char p = 'p'; p <= 's'; p++) {
        lines.add("fears " + goat + " " + p);
      }
    }
    GoatCourt x = check.taken(base + String.join(";", lines), 1);
    check.due("feared by the first", x.goat(0, 4), 15);
    check.due("feared by the second", x.goat(1, 4), 0);
    check.due("feared by the last", x.goat(5, 4), 15);
    check.faulty(base + String.join(";", lines) + ";|fears", 5);
    check.faulty(base + String.join(";", lines) + ";|fears nb p", 5);
    check.faulty(base + String.join(";", lines) + ";|fears na p", 5);
    check.by("a PERSON that is feared already: at it");
    for (int i = 1; i <= 7; i++) {
      String some = base + String.join(";", lines.subList(0, i));
      check.faulty(some + ";fears na |p", 3);
      check.taken(some + ";fears nb p", 1);
    }
    check.faulty(base + "fears na p;fears na q;fears na |q", 3);
    check.faulty(base + "fears nb s;fears na s;fears nb |s", 3);
  }

  private static void cluesRoom() {
    check.by("found .., or seen .., or shied .. (up to 10 of these: CLUES)");
    String[] sorts = {"found go a pl", "seen go pl 0", "shied go pl 2"};
    for (int kind = 0; kind < 4; kind++) {
      List<String> lines = new ArrayList<>();
      for (int i = 0; i < 10; i++) {
        lines.add(sorts[kind == 3 ? i % 3 : kind]);
      }
      for (String word : new String[] {"found", "seen", "shied"}) {
        room(ALL, lines, word, 6);
      }
    }
    GoatCourt x = check.taken(ALL + "goat nw shy likes b at pm trust 1;" + times("seen nw pm 1;", 9) + "shied go pl 2", 1);
    check.due("how many are its", x.goat(0, 5), 1);
    check.due("how many are its", x.goat(1, 5), 9);
    check.due("the last one's sort", x.clue(9, 0), 2);
    check.due("the last one's hour", x.clue(9, 3), 2);
  }

  private static void clueHours() {
    check.by("an hour, 0 up to hours less 1");
    for (int hours = 2; hours <= 12; hours++) {
      String hill = "hill hours " + hours + " plants 1;place a 1;goat g plain likes a at a trust 1;";
      for (String sort : new String[] {"seen", "shied"}) {
        check.due("the first hour", check.taken(hill + sort + " g a 0", 1).clue(0, 3), 0);
        check.due("the last hour", check.taken(hill + sort + " g a " + (hours - 1), 1).clue(0, 3), hours - 1);
        check.faulty(hill + sort + " g a |" + hours, 4);
        check.faulty(hill + sort + " g a |999", 4);
        check.faulty(hill + sort + " g a |-1", 1);
        check.faulty(hill + sort + " g a |", 1);
      }
    }
  }

  private static void cluePlants() {
    check.by("a PLANT with a letter that is no plant, a PLANT of more letters: at it");
    for (int plants = 1; plants <= 4; plants++) {
      String hill = "hill hours 2 plants " + plants + ";place u 1" + times(",1", plants - 1)
          + ";goat g plain likes a at u trust 1;found g ";
      for (int plant = 0; plant < plants; plant++) {
        check.due("the plant", check.taken(hill + (char) ('a' + plant) + " u", 1).clue(0, 3), plant);
        check.faulty(hill + "|" + (char) ('a' + plant) + "a u", 7);
        check.faulty(hill + "|a" + (char) ('a' + plant) + " u", 7);
      }
      check.faulty(hill + "|" + (char) ('a' + plants) + " u", 7);
      check.faulty(hill + "|z u", 7);
      check.faulty(hill + "|abcd u", 7);
      check.faulty(hill + "|aaaaaaaa u", 7);
      check.faulty(hill + "|0 u", 1);
      check.faulty(hill + "|g u", 7);
      check.faulty(hill + "|u", 7);
    }
    for (String word : Hills.RESERVED) {
      check.faulty(ALL + "found go |" + word, 7);
    }
  }

  private static void facts() {
    check.by("fact NAME (up to 8)");
    room("hill hours 2 plants 1;place a 1;", numbered(8, "fact ", ""), "fact", 7);
  }

  private static void holding() {
    check.by("holds FACT (once); a FACT that holds already: at it");
    String base = "hill hours 2 plants 1;place a 1;" + String.join(";", numbered(8, "fact ", ""));
    for (int i = 0; i < 8; i++) {
      base += ";holds n" + (char) ('a' + i);
      GoatCourt x = check.taken(base, 1);
      for (int f = 0; f < 8; f++) {
        check.due("follows(" + f + ")", x.follows(f), f <= i ? 1 : 0);
      }
      for (int f = 0; f <= i; f++) {
        check.faulty(base + ";holds |n" + (char) ('a' + f), 3);
      }
    }
    check.faulty(base + ";holds |", 1);
    check.faulty(base + ";holds |nobody", 2);
  }

  private static void rules() {
    check.by("rule FACT if FACT {, FACT} (1 .. 3 of these, unlike; up to 8)");
    room(ALL, List.of("rule fa if fb", "rule fa if fb,fc", "rule fa if fb,fc,fd", "rule fa if fa", "rule fb if fa",
        "rule fb if fa,fb", "rule fb if fd,fc,fb", "rule fb if fd"), "rule", 8);
    check.faulty(ALL + "rule fa if|", 1);
    check.faulty(ALL + "rule fa if |;", 1);
    check.taken(ALL + "rule fa if fb", 1);
    check.taken(ALL + "rule fa if fb,fc", 1);
    check.taken(ALL + "rule fa if fb,fc,fd", 1);
    check.by("a FACT too many in a LINE: at it");
    check.faulty(ALL + "rule fa if fb,fc,fd,|fa", 5);
    check.faulty(ALL + "rule fa if fb , fc , fd , |fa , fa", 5);
    check.faulty(ALL + "rule fa if fb,fc,fd,|;", 1);
    check.faulty(ALL + "rule fa if fb,fc,fd,|", 1);
    check.faulty(ALL + "rule fa if fb,fc,fd,|if", 1);
    check.faulty(ALL + "rule fa if fb,fc,fd,|nobody", 2);
    check.faulty(ALL + "rule fa if fb,fc,fd,|pl", 2);
    check.by("one told again in a rule (behind if): at it");
    check.taken(ALL + "rule fa if fa,fb,fc", 1);
    check.taken(ALL + "rule fc if fa,fb,fc", 1);
    check.faulty(ALL + "rule fa if fb,|fb", 3);
    check.faulty(ALL + "rule fa if fa,|fa", 3);
    check.faulty(ALL + "rule fa if fb,fc,|fb", 3);
    check.faulty(ALL + "rule fa if fb,fc,|fc", 3);
    check.faulty(ALL + "rule fa if fb,fc,fd,|fb", 3);
    check.faulty(ALL + "rule fa if fb,fc,fd,|fd", 3);
    check.taken(ALL + "rule fa if fb;rule fa if fb;rule fa if fb,fc", 1);
  }

  private static void proofs() {
    check.by("proof FACT {, FACT} (up to 8 steps; once)");
    String text = ALL + "proof fa";
    for (int steps = 1; steps <= 8; steps++) {
      GoatCourt x = check.taken(text, 1);
      check.due("steps", x.size(9), steps);
      check.faulty(text + ";|proof", 3);
      check.faulty(text + ";holds fa;|proof fa", 3);
      text += steps % 2 == 0 ? ",fa" : " , fd";
    }
    int comma = text.lastIndexOf(',');
    String eight = text.substring(0, comma);
    check.faulty(eight + ",|fa", 5);
    check.faulty(eight + ", |fd , fd", 5);
    check.faulty(eight + ",|", 1);
    check.faulty(eight + ",|;", 1);
    check.faulty(eight + ",|proof", 1);
    check.faulty(eight + ",|nobody", 2);
    check.faulty(eight + ",|co", 2);
    check.faulty(ALL + "proof|", 1);
    check.due("steps of no proof", check.taken(ALL + "holds fa", 1).size(9), 0);
  }

  private static void courts() {
    check.by("court NAME costs WHOLE wins WHOLE (0 .. 99; 1 .. 9 tenths; up to 6)");
    bounds(ALL + "court nw costs ", " wins 5", 0, 99);
    bounds(ALL + "court nw costs 50 wins ", "", 1, 9);
    room("hill hours 2 plants 1;place a 1;", numbered(6, "court ", " costs 1 wins 1"), "court", 10);
    check.due("the least costs", check.taken(Hills.LEAST + ";court c costs 0 wins 9", 1).appeals(), 0L);
    check.due("the greatest costs", check.taken(Hills.LEAST + ";court c costs 99 wins 1", 1).appeals(), 990L);
  }

  private static void cheeses() {
    check.by("cheese WHOLE {, WHOLE} (as many as plants, 0 .. 99; once)");
    bounds("hill hours 2 plants 1;place a 1;cheese ", "", 0, 99);
    for (int plants = 1; plants <= 4; plants++) {
      String hill = "hill hours 2 plants " + plants + ";place a 3" + times(",3", plants - 1) + ";cheese 99";
      for (int given = 1; given <= 5; given++) {
        if (given == plants) {
          check.taken(hill, 1);
          check.faulty(hill + ";|cheese", 3);
          check.faulty(hill + ";person p;|cheese 1" + times(",1", plants - 1), 3);
          bounds(hill.substring(0, hill.length() - 2), "", 0, 99);
        } else if (given < plants) {
          check.faulty(hill + "|", 1);
          check.faulty(hill + "|;person p", 1);
          check.faulty(hill + " |1", 1);
        } else if (given == plants + 1) {
          check.faulty(hill.substring(0, hill.length() - 3) + "|,99", 1);
          check.faulty(hill.substring(0, hill.length() - 3) + "|,100", 1);
        }
        hill += ",99";
      }
    }
    check.faulty(START + "cheese|", 1);
  }

  private static void reservedWords() {
    check.by("NAMES are WORDS but hill, place, .., if");
    for (String word : Hills.RESERVED) {
      for (String[] tell : TELLS) {
        check.faulty(ALL + tell[0] + "|" + word + tell[1], 1);
        check.taken(ALL + tell[0] + word + "x" + tell[1], 1);
        check.taken(ALL + tell[0] + "x" + word + tell[1], 1);
        check.taken(ALL + tell[0] + word.substring(0, word.length() - 1) + tell[1], 1);
      }
      for (String[] use : USES) {
        check.faulty(ALL + use[0] + "|" + word + use[3], 1);
      }
    }
    for (String word : new String[] {"hours", "plants", "plain", "shy", "billy", "kid", "likes", "at", "trust", "costs", "wins"}) {
      for (String[] tell : TELLS) {
        check.taken(ALL + tell[0] + word + tell[1], 1);
      }
    }
  }

  private static void toldOnce() {
    check.by("each told once; a NAME told again; at it");
    for (String[] tell : TELLS) {
      for (String name : TOLD.values()) {
        check.faulty(ALL + tell[0] + "|" + name + tell[1], 3);
        check.faulty(ALL + tell[0] + "|" + name, 3);
        check.taken(ALL + tell[0] + name + "x" + tell[1], 1);
      }
      for (String[] other : TELLS) {
        check.faulty(ALL + tell[0] + "nw" + tell[1] + ";" + other[0] + "|nw" + other[1], 3);
      }
    }
    // of eight letters, unlike in the first, or in the last
    check.taken(START + "place abcdefgh 1,1;place bbcdefgh 1,1;place abcdefgg 1,1", 1);
    check.faulty(START + "place abcdefgh 1,1;place bbcdefgh 1,1;place |abcdefgh 1,1", 3);
  }

  private static void aheadOfItsUse() {
    check.by("ahead of its use; a NAME that isn't told: at it");
    String[] tellers = {"place no 1,1", "person no", "goat no plain likes a at pl trust 1", "fact no", "court no costs 1 wins 1"};
    for (String[] use : USES) {
      check.taken(ALL + use[0] + use[2] + use[3], 1);
      check.faulty(ALL + use[0] + "|no" + use[3], 2);
      check.faulty(ALL + use[0] + "|" + use[2] + "x" + use[3], 2);
      for (String teller : tellers) {
        check.faulty(ALL + use[0] + "|no" + use[3] + ";" + teller, 2);
      }
    }
  }

  private static void otherSorts() {
    check.by("or is of another sort than must stand there; at it");
    for (String[] use : USES) {
      for (Map.Entry<Character, String> name : TOLD.entrySet()) {
        if (name.getKey() != use[1].charAt(0)) {
          check.faulty(ALL + use[0] + "|" + name.getValue() + use[3], 2);
        }
      }
    }
  }

  /** WORDS that must stand somewhere may be NAMES: a NAME ahead of one doesn't stand for it. */
  private static void namesAsWords() {
    check.by("NAMES are WORDS but .. (so hours, likes, costs and their like may be NAMES)");
    check.faulty(ALL + "goat likes plain likes a at pl trust 1;goat nw kid likes |7", 1);
    check.faulty(ALL + "goat likes plain likes a at pl trust 1;goat nw kid likes |;", 1);
    check.faulty(ALL + "goat likes plain likes a at pl trust 1;goat nw kid likes |", 1);
    check.taken(ALL + "goat likes plain likes a at pl trust 1;goat nw kid likes likes a at pl trust 1", 1);
    check.faulty(ALL + "place trust 1,1;goat nw plain likes a at trust |7", 1);
    check.taken(ALL + "place trust 1,1;goat nw plain likes a at trust trust 7", 1);
    check.taken(ALL + "place at 1,1;goat kid plain likes a at at trust 7", 1);
    for (String kind : new String[] {"plain", "shy", "billy", "kid"}) {
      check.faulty(ALL + "goat " + kind + " |7", 1);
      check.faulty(ALL + "goat " + kind + " |, likes a at pl trust 1", 1);
      check.faulty(ALL + "goat " + kind + "|", 1);
      check.taken(ALL + "goat " + kind + " plain likes a at pl trust 1", 1);
    }
    check.faulty(ALL + "court costs |5 wins 1", 1);
    check.faulty(ALL + "court costs |, 5 wins 1", 1);
    check.taken(ALL + "court costs costs 5 wins 1", 1);
    check.taken(ALL + "court wins costs 5 wins 1", 1);
    check.by("LINE {; LINE} (a WHOLE, a sign, the end where a LINE must begin)");
    check.faulty(ALL + "cheese 1,1;|7", 1);
    check.faulty(ALL + "cheese 1,1;|,", 1);
    check.faulty(ALL + "cheese 1,1;|;", 1);
    check.faulty(ALL + "cheese 1,1;|", 1);
    check.faulty("hill hours 2 plants 1;|7", 1);
    check.faulty("|7 hill hours 2 plants 1", 1);
  }

  private static void allNames() {
    check.by("each told once (as many NAMES as there is room for, the last one told is used too)");
    String[][] sorts = {{"8", "place ", " 1"}, {"4", "person ", ""}, {"6", "court ", " costs 1 wins 1"},
        {"6", "goat ", " shy likes a at xaa trust 1"}, {"8", "fact ", ""}};
    for (int last = 0; last < 5; last++) {
      StringBuilder text = new StringBuilder("hill hours 2 plants 1;place xaa 1");
      for (int i = 1; i <= 5; i++) {
        int sort = (last + i) % 5;
        for (int n = sort == 0 ? 1 : 0; n < Integer.parseInt(sorts[sort][0]); n++) {
          text.append(";").append(sorts[sort][1]).append("x").append((char) ('a' + sort)).append((char) ('a' + n)).append(sorts[sort][2]);
        }
      }
      check.taken(text.toString(), 1);
      String[] uses = {"path xaa xah", "story xbd xaa", "court", "seen xdf xaa 0", "holds xeh"};
      if (last == 2) {
        check.faulty(text + ";|court", 5);
        check.faulty(text + ";holds |xcf", 2);
      } else {
        check.taken(text + ";" + uses[last], 1);
      }
      check.faulty(text + ";holds |xzz", 2);
    }
  }

  private static void sortsInTurn() {
    check.by("up to .. (each LINE counts for its own sort)");
    StringBuilder text = new StringBuilder("hill hours 2 plants 1;place xaa 1;cheese 1;fact f;proof f;holds f");
    for (int i = 0; i < 8; i++) {
      char n = (char) ('a' + i);
      text.append(i < 7 ? ";place p" + n + " 1;path xaa p" + n + ";fact f" + n + ";holds f" + n + ";rule f if f" + n : ";rule f if f");
      text.append(i < 4 ? ";person e" + n + ";story e" + n + " xaa" : "");
      text.append(i < 6 ? ";goat g" + n + " shy likes a at xaa trust 1;court c" + n + " costs 1 wins 1;seen g" + n + " xaa 1" : "");
      text.append(i < 4 ? ";fears g" + n + " ea;found g" + n + " a xaa;fears g" + n + " e" + (i == 0 ? 'a' : n) : "");
    }
    // goat ga fears ea once
    String whole = text.toString().replace(";fears ga ea;found", ";found");
    GoatCourt x = check.taken(whole, 1);
    int[] due = {2, 1, 8, 7, 4, 6, 10, 8, 8, 1, 6, 1};
    for (int what = 0; what < due.length; what++) {
      check.due("size(" + what + ")", x.size(what), due[what]);
    }
    for (String word : new String[] {"place", "person", "goat", "found", "seen", "shied", "fact", "rule", "court"}) {
      check.faulty(whole + ";|" + word, 5);
    }
    check.taken(whole + ";path pa pb;fears ge eb", 1);
  }

  private static void firstFromTheLeft() {
    check.by("FAULTS, the first that is met from the left");
    String[] faults = {"path pl |zz", "place |pl 1,1", "court nw costs |100 wins 1", "story pe pl,pl,pl,|pl", "found go |c pl",
        "cheese 1|;"};
    int[] numbers = {2, 3, 4, 5, 7, 1};
    for (int a = 0; a < faults.length; a++) {
      for (int b = 0; b < faults.length; b++) {
        String behind = faults[b].replace("|", "");
        check.faulty(ALL + faults[a] + ";" + behind, numbers[a]);
      }
    }
    // in one LINE
    check.faulty(ALL + "goat nw kid |zz likes c at zz trust 0", 2);
    check.faulty(ALL + "goat nw plain likes |c at zz trust 0", 7);
    check.faulty(ALL + "goat nw plain likes a at |zz trust 0", 2);
    check.faulty(ALL + "goat |go odd likes c", 3);
    check.faulty(ALL + "court nw costs |100 wins 0", 4);
    check.faulty(ALL + "path |zz zz", 2);
    check.faulty(ALL + "rule |zz if fb,fb", 2);
    check.faulty(ALL + "found |zz c zz", 2);
    check.faulty(ALL + "found go |c zz", 7);
    check.faulty("hill hours |1 plants 5", 4);
  }

  private static void leastNumber() {
    check.by("of one place the least number");
    // 1 and 6: the end
    check.faulty("hill hours 2 plants 1;|", 1);
    check.faulty("hill hours 2 plants 1;person|", 1);
    // 1 and 7, 1 and 2, 1 and 3
    check.faulty(ALL + "goat nw plain likes |ccccccccc", 1);
    check.faulty(ALL + "path pl |if", 1);
    check.faulty(ALL + "path pl |place", 1);
    // 2 and 5, 3 and 5
    check.faulty(ALL + "story pe pl,pl,pl,|go", 2);
    check.faulty(ALL + "proof fa,fa,fa,fa,fa,fa,fa,fa,|pl", 2);
    check.faulty(ALL + "rule fa if fb,fc,fd,|fc", 3);
    check.faulty(ALL + "rule fa if fb,fc,fd,|go", 2);
    // 3 and 5: as many as there is room for is one
    check.faulty(ALL + "proof fa;|proof fa", 3);
    check.faulty(ALL + "cheese 1,1;|cheese 1,1", 3);
    check.faulty(ALL + "|hill", 3);
  }

  private static void theEnd() {
    check.by("(the end: its place); at the end: no place");
    check.faultAt("", 1, 0);
    check.faultAt("    ", 1, 4);
    check.faultAt("hill hours 2 plants 1", 6, 21);
    check.faultAt("hill hours 2 plants 1    ", 6, 25);
    GoatCourt x = new GoatCourt();
    Check.feed(x, "hill hours 2 plants 1;place ab 12");
    check.due("n in the midst of a WHOLE", x.hill(32), 1);
    check.due("the first n bytes alone", x.plants(0, 0), 1);
    Check.feed(x, "hill hours 2 plants 1;place ab 1;path ab ab");
    check.due("n behind a WORD", x.hill(37), -1);
    check.due("fault()", x.fault(), 1);
    check.due("where()", x.where(), 37);
    Check.feed(x, "hill hours 2 plants 1;place ab 1;path abc ab");
    check.due("n in the midst of a WORD", x.hill(40), -1);
    check.due("fault()", x.fault(), 1);
    check.due("where()", x.where(), 40);
    Check.feed(x, "hill hours 2 plants 1;place ab 1;path abc ab");
    check.due("n behind the WORD", x.hill(41), -1);
    check.due("fault()", x.fault(), 2);
    check.due("where()", x.where(), 38);
    Check.feed(x, "hill hours 2 plants 1;place ab 1;");
    check.due("n ahead of the last sign", x.hill(32), 1);
    Check.feed(x, "hill hours 2 plants 1;place ab 1;");
    check.due("n behind the last sign", x.hill(33), -1);
    check.due("where()", x.where(), 33);
  }

  private static void lacks() {
    check.by("LACKS: .. at the end: no place");
    String text = "hill hours 3 plants 2";
    check.faulty(text + "|", 6);
    for (String line : new String[] {"person p", "fact f", "holds f", "rule f if f", "proof f", "court c costs 1 wins 1",
        "cheese 1,1"}) {
      text += ";" + line;
      check.faulty(text + "|", 6);
      check.faulty(text + "  |", 6);
    }
    check.taken(text + ";place a 1,1", 1);
    check.due("PLACES, one at least", check.taken(Hills.LEAST, 1).size(2), 1);
  }

  private static void allAtOnce() {
    check.by("up to .. (as much of all as there is room for)");
    GoatCourt x = check.taken(Hills.FULL, 81);
    for (int what = 0; what < Hills.FULL_SIZES.length; what++) {
      check.due("size(" + what + ")", x.size(what), Hills.FULL_SIZES[what]);
    }
    for (String word : new String[] {"place", "path", "person", "goat", "fears", "found", "seen", "shied", "fact", "rule", "court"}) {
      check.faulty(Hills.FULL + ";|" + word, 5);
    }
    for (String word : new String[] {"hill", "proof", "cheese"}) {
      check.faulty(Hills.FULL + ";|" + word, 3);
    }
    for (char p = 'i'; p <= 'l'; p++) {
      check.faulty(Hills.FULL + ";story |" + p + " a", 5);
    }
    check.faulty(Hills.FULL + ";holds |s", 3);
    check.taken(Hills.FULL + ";holds z", 81);
    // the HILL behind is the least one again: nothing is left of the full one
    check.due("the least one behind it", Check.hill(x, Hills.LEAST), 1);
    int[] least = {2, 1, 1, 0, 0, 0, 0, 0, 0, 0, 0, 1, 0, 0, 0};
    for (int what = 0; what < least.length; what++) {
      check.due("size(" + what + ") of the least", x.size(what), least[what]);
    }
    check.due("no path", x.near(0), 0);
    check.refused(x, "no cheese", x.cheese(0), 6);
    check.due("and the full one again", Check.hill(x, Hills.FULL), 81);
  }
}
