/** The text of a HILL and its FAULTS; in a text | stands ahead of the place at which a FAULT is due. */
public final class FaultsTest {
  private static final Check check = new Check();
  private static final String START = "hill hours 3 plants 2;";
  private static final String PLACES = START + "place u 1,1;place v 0,9;";
  private static final String GOAT = PLACES + "person p;person q;goat g plain likes ab at u trust 5;";
  private static final String LAW = START + "place u 1,1;fact a;fact b;fact c;fact d;";
  private static final String[] RESERVED = {"hill", "place", "path", "person", "story", "goat", "fears", "found", "seen",
      "shied", "fact", "holds", "rule", "proof", "court", "cheese", "if"};

  public static void main(String[] args) {
    tokens();
    form();
    names();
    again();
    bounds();
    many();
    lacks();
    orders();
    order();
    check.end();
  }

  private static String times(String part, int n) {
    return part.repeat(n);
  }

  private static void tokens() {
    check.taken("hillhours2plants1;placea1".replace("hillhours", "hill hours").replace("placea", "place a"), 1);
    check.taken("  hill   hours 002 plants 1 ; place abcdefgh 009  ", 1);
    check.faulty("hill hours 2 plants 1;place |abcdefghi 1", 1);
    check.faulty("hill hours |0002 plants 1;place a 1", 1);
    check.faulty("|hillhours 2 plants 1;place a 1", 1);
    check.faulty("|Hill hours 2 plants 1", 1);
    check.faulty("hill hours 2 plants 1;place a|A 1", 1);
    check.faulty("hill hours 2 plants 1;place a |-1", 1);
    check.faulty("hill hours 2 plants 1;place a 1|.", 1);
    check.faulty("hill hours 2 plants 1;|\tplace a 1", 1);
    check.faulty("hill hours 2 plants 1;place a 1|\n", 1);
    check.faulty("hill hours 2 plants 1;place a|" + (char) 225 + " 1", 1);
    check.faulty("hill hours 2 plants 1;place a|" + (char) 0 + " 1", 1);
    check.faulty("hill hours 2 plants 1;place a|{ 1", 1);
    check.faulty("hill hours 2 plants 1;place a|` 1", 1);
    check.faulty("hill hours 2 plants 1;place a |/", 1);
    check.faulty("hill hours 2 plants 1;place a |:", 1);
  }

  private static void form() {
    check.faulty("|", 1);
    check.faulty("   |", 1);
    check.faulty("|;", 1);
    check.faulty("|,", 1);
    check.faulty("|7", 1);
    check.faulty("|if", 1);
    check.faulty("|nothing", 1);
    check.faulty("hill|", 1);
    check.faulty("hill |hour 2", 1);
    check.faulty("hill |2", 1);
    check.faulty("hill hours |plants", 1);
    check.faulty("hill hours 2 |plant 2", 1);
    check.faulty("hill hours 2 plants |a", 1);
    check.faulty("hill hours 2 plants 1 |place a 1", 1);
    check.faulty("hill hours 2 plants 1|,place a 1", 1);
    check.faulty("hill hours 2 plants 1;|;place a 1", 1);
    check.faulty("hill hours 2 plants 1;|", 1);
    check.faulty("hill hours 2 plants 1;place a 1;|", 1);
    check.faulty("hill hours 2 plants 1;place a 1;  |", 1);
    check.faulty("hill hours 2 plants 1;|if", 1);
    check.faulty("hill hours 2 plants 1;|a", 1);
    check.faulty("hill hours 2 plants 1;place |1", 1);
    check.faulty("hill hours 2 plants 1;place a|", 1);
    check.faulty("hill hours 2 plants 1;place a |,", 1);
    check.faulty("hill hours 2 plants 1;place a 1|,1", 1);
    check.faulty("hill hours 2 plants 2;place a 1|;", 1);
    check.faulty("hill hours 2 plants 2;place a 1 |1", 1);
    check.faulty("hill hours 2 plants 2;place a 1,|", 1);
    check.faulty("hill hours 2 plants 2;place a 1,|,1", 1);
    check.faulty(PLACES + "path u|", 1);
    check.faulty(PLACES + "path u|,v", 1);
    check.faulty(PLACES + "path u v |v", 1);
    check.faulty(PLACES + "person |3", 1);
    check.faulty(PLACES + "person p |p", 1);
    check.faulty(GOAT + "story p|", 1);
    check.faulty(GOAT + "story p u  |v", 1);
    check.faulty(GOAT + "story p u,|", 1);
    check.faulty(GOAT + "story p u,v,u,|;", 1);
    check.faulty(GOAT + "goat h |fat likes a", 1);
    check.faulty(GOAT + "goat h |likes a", 1);
    check.faulty(GOAT + "goat h kid |likes a", 2);
    check.faulty(GOAT + "goat h kid |3", 1);
    check.faulty(GOAT + "goat h plain |at", 1);
    check.faulty(GOAT + "goat h plain likes |1", 1);
    check.faulty(GOAT + "goat h plain likes a |u", 1);
    check.faulty(GOAT + "goat h plain likes a at u |5", 1);
    check.faulty(GOAT + "goat h plain likes a at u trust |a", 1);
    check.faulty(GOAT + "goat h plain likes a at u trust 5 |6", 1);
    check.faulty(GOAT + "found g |1", 1);
    check.faulty(GOAT + "found g a |1", 1);
    check.faulty(GOAT + "found g a u |1", 1);
    check.faulty(GOAT + "seen g u|", 1);
    check.faulty(GOAT + "seen g u |v", 1);
    check.faulty(GOAT + "shied g |1", 1);
    check.faulty(GOAT + "fears g|", 1);
    check.faulty(LAW + "rule a |b", 1);
    check.faulty(LAW + "rule a if|", 1);
    check.faulty(LAW + "rule a |;cheese;", 1);
    check.faulty(LAW + "rule a if b |c", 1);
    check.faulty(LAW + "rule a if b,|if", 1);
    check.faulty(LAW + "holds a|,b", 1);
    check.faulty(LAW + "proof|", 1);
    check.faulty(LAW + "proof a,|,b", 1);
    check.faulty(START + "court c |cost 1", 1);
    check.faulty(START + "court c costs |a", 1);
    check.faulty(START + "court c costs 1 |win 1", 1);
    check.faulty(START + "cheese 1|", 1);
    check.faulty(START + "cheese 1,1|,1", 1);
    check.faulty(START + "cheese |a", 1);
    for (String word : RESERVED) {
      check.faulty(START + "place |" + word + " 1,1", 1);
      check.faulty(START + "person |" + word, 1);
      check.faulty(START + "fact |" + word, 1);
      check.faulty(START + "court |" + word, 1);
      check.faulty(START + "goat |" + word, 1);
      check.faulty(PLACES + "path u |" + word, 1);
      check.faulty(GOAT + "story |" + word, 1);
      check.faulty(GOAT + "fears |" + word, 1);
      check.faulty(LAW + "holds |" + word, 1);
    }
  }

  private static void names() {
    for (String word : new String[] {"hours", "plants", "likes", "at", "trust", "costs", "wins", "plain", "shy", "billy",
        "kid", "a", "hil", "hills", "iff"}) {
      check.taken("hill hours 2 plants 1;place " + word + " 1;place z 1;path " + word + " z", 1);
    }
    check.taken(PLACES + "goat kid plain likes a at u trust 1;goat plain kid kid likes b at v trust 2", 1);
    check.faulty(START + "path |u v", 2);
    check.faulty(PLACES + "path u |w", 2);
    check.faulty(GOAT + "path u |p", 2);
    check.faulty(GOAT + "story |u u", 2);
    check.faulty(GOAT + "story |w u", 2);
    check.faulty(GOAT + "story p |q", 2);
    check.faulty(GOAT + "story p u,|g", 2);
    check.faulty(GOAT + "fears |p p", 2);
    check.faulty(GOAT + "fears g |g", 2);
    check.faulty(GOAT + "goat h kid |h", 2);
    check.faulty(GOAT + "goat h kid |p", 2);
    check.faulty(GOAT + "goat h plain likes a at |g", 2);
    check.faulty(GOAT + "found |u", 2);
    check.faulty(GOAT + "found g a |g", 2);
    check.faulty(GOAT + "seen |p u 1", 2);
    check.faulty(GOAT + "seen g |q 1", 2);
    check.faulty(GOAT + "shied g |b 1", 2);
    check.faulty(LAW + "holds |u", 2);
    check.faulty(LAW + "holds |e", 2);
    check.faulty(LAW + "rule |u if a", 2);
    check.faulty(LAW + "rule a if |u", 2);
    check.faulty(LAW + "proof a,|u", 2);
    check.faulty(START + "court c costs 1 wins 1;holds |c", 2);
    // one that is told further on isn't told yet
    check.faulty(START + "place u 1,1;path u |v;place v 1,1", 2);
  }

  private static void again() {
    check.faulty(PLACES + "place |u", 3);
    check.faulty(PLACES + "person |u", 3);
    check.faulty(PLACES + "fact |v", 3);
    check.faulty(PLACES + "court |v", 3);
    check.faulty(PLACES + "goat |v", 3);
    check.faulty(LAW + "court |d", 3);
    check.faulty(START + "court c costs 1 wins 1;place |c", 3);
    check.faulty(PLACES + "path u |u", 3);
    check.faulty(PLACES + "path u v;path v |u", 3);
    check.faulty(PLACES + "path u v;path u |v", 3);
    check.faulty(GOAT + "fears g p;fears g q;fears g |p", 3);
    check.taken(GOAT + "goat h plain likes a at u trust 1;fears g p;fears h p;fears g q", 1);
    check.faulty(LAW + "holds a;holds b;holds |a", 3);
    check.faulty(LAW + "rule a if b,c,|b", 3);
    check.faulty(LAW + "rule a if b,|b", 3);
    check.taken(LAW + "rule a if a,b;rule a if a,b;rule b if a", 1);
    check.faulty(LAW + "rule a if b,c,d,|b", 3);
    check.faulty(PLACES + "|hill", 3);
    check.faulty(START + "|hill hours 2 plants 2", 3);
    check.faulty(LAW + "proof a;|proof b", 3);
    check.faulty(START + "cheese 1,1;|cheese", 3);
    check.taken(LAW + "proof a,a,b", 1);
  }

  private static void bounds() {
    check.faulty("hill hours |1 plants 1", 4);
    check.faulty("hill hours |13 plants 1", 4);
    check.faulty("hill hours |0", 4);
    check.faulty("hill hours 12 plants |0", 4);
    check.faulty("hill hours 12 plants |5", 4);
    check.taken("hill hours 12 plants 4;place a 0,9,0,9", 1);
    check.faulty(START + "place a |10,1", 4);
    check.faulty(START + "place a 1,|999", 4);
    check.faulty(PLACES + "goat g plain likes a at u trust |0", 4);
    check.faulty(PLACES + "goat g plain likes a at u trust |10", 4);
    check.taken(PLACES + "goat g plain likes a at u trust 9;goat h plain likes a at u trust 1", 1);
    check.faulty(GOAT + "seen g u |3", 4);
    check.taken(GOAT + "seen g u 2;shied g u 0", 1);
    check.faulty(GOAT + "shied g u |003", 4);
    check.faulty(START + "court c costs |100", 4);
    check.faulty(START + "court c costs 99 wins |0", 4);
    check.faulty(START + "court c costs 0 wins |10", 4);
    check.taken(PLACES + "court c costs 99 wins 9;court d costs 0 wins 1", 1);
    check.faulty(START + "cheese |100,1", 4);
    check.faulty(START + "cheese 99,|100", 4);
    check.taken(PLACES + "cheese 99,0", 1);
  }

  private static void many() {
    StringBuilder places = new StringBuilder("hill hours 2 plants 1");
    for (int i = 0; i < 8; i++) {
      places.append(";place ").append((char) ('a' + i)).append(" 1");
    }
    check.taken(places.toString(), 1);
    check.faulty(places + ";|place", 5);
    String many = places + ";path a b;path a c;path a d;path a e;path a f;path a g;path a h;path b c;path b d;path b e;path b f;"
        + "path b g;path b h;path c d";
    check.taken(many, 1);
    check.faulty(many + ";|path c e", 5);
    String people = START + "place u 1,1;person a;person b;person c;person d";
    check.taken(people, 1);
    check.faulty(people + ";|person e", 5);
    check.taken(people + times(";story b u", 3), 3);
    check.faulty(people + times(";story b u", 3) + ";story |b u", 5);
    String all = people + times(";story a u", 3) + times(";story b u", 3) + times(";story c u", 3) + times(";story d u", 3);
    check.taken(all, 81);
    check.faulty(all + ";story |d u", 5);
    check.faulty(all + ";story |e u", 2);
    check.taken(people + ";story a u,u,u", 1);
    check.faulty(people + ";story a u,u,u,|u", 5);
    check.faulty(people + ";story a u,u,u,|w", 2);
    check.faulty(people + ";story a u,u,u,|1", 1);
    StringBuilder goats = new StringBuilder(START + "place u 1,1");
    for (int i = 0; i < 6; i++) {
      goats.append(";goat ").append((char) ('a' + i)).append(" plain likes a at u trust 1");
    }
    check.taken(goats.toString(), 1);
    check.faulty(goats + ";|goat", 5);
    String fears = goats + ";person p;person q;fears a p;fears a q;fears b p;fears b q;fears c p;fears c q;fears d p;fears d q";
    check.taken(fears, 1);
    check.faulty(fears + ";|fears e p", 5);
    String clues = GOAT + "found g a u" + times(";seen g u 1", 4) + times(";shied g u 1", 5);
    check.taken(clues, 1);
    check.faulty(clues + ";|found", 5);
    check.faulty(clues + ";|seen", 5);
    check.faulty(clues + ";|shied", 5);
    check.taken(LAW + "fact e;fact f;fact g;fact h", 1);
    check.faulty(LAW + "fact e;fact f;fact g;fact h;|fact", 5);
    check.taken(LAW + "rule a if b" + times(";rule a if b", 7), 1);
    check.faulty(LAW + "rule a if b" + times(";rule a if b", 7) + ";|rule", 5);
    check.taken(LAW + "rule a if b,c,d", 1);
    check.faulty(LAW + "rule a if b,c,d,|a", 5);
    check.taken(LAW + "proof a" + times(",b", 7), 1);
    check.faulty(LAW + "proof a" + times(",b", 7) + ",|b", 5);
    check.faulty(LAW + "proof a" + times(",b", 7) + ",|u", 2);
    String courts = START + "place u 1,1";
    for (int i = 0; i < 6; i++) {
      courts += ";court " + (char) ('a' + i) + " costs 1 wins 1";
    }
    check.taken(courts, 1);
    check.faulty(courts + ";|court", 5);
    // all that there is room for: 32 NAMES
    check.taken("hill hours 2 plants 1;place pa 1;place pb 1;place pc 1;place pd 1;place pe 1;place pf 1;place pg 1;place ph 1;"
        + "person a;person b;person c;person d;goat ga plain likes a at pa trust 1;goat gb plain likes a at pa trust 1;"
        + "goat gc plain likes a at pa trust 1;goat gd plain likes a at pa trust 1;goat ge plain likes a at pa trust 1;"
        + "goat gf plain likes a at pa trust 1;fact fa;fact fb;fact fc;fact fd;fact fe;fact ff;fact fg;fact fh;"
        + "court ca costs 1 wins 1;court cb costs 1 wins 1;court cc costs 1 wins 1;court cd costs 1 wins 1;"
        + "court ce costs 1 wins 1;court cf costs 1 wins 1;holds fh", 1);
  }

  private static void lacks() {
    for (String word : RESERVED) {
      if (!word.equals("if") && !word.equals("hill")) {
        check.faulty("|" + word, 6);
        check.faulty("  |" + word + " a", 6);
      }
    }
    check.faulty("hill hours 2 plants 1|", 6);
    check.faulty("hill hours 2 plants 1  |", 6);
    check.faulty("hill hours 2 plants 1;fact a;person b|", 6);
  }

  private static void orders() {
    check.taken("hill hours 2 plants 4;place u 1,1,1,1;goat g plain likes dacb at u trust 1", 1);
    check.faulty(PLACES + "goat g plain likes |c", 7);
    check.faulty(PLACES + "goat g plain likes |abc", 7);
    check.faulty(PLACES + "goat g plain likes |aba", 7);
    check.faulty(PLACES + "goat g plain likes |z", 7);
    check.faulty(PLACES + "goat g plain likes |if", 7);
    check.faulty(PLACES + "goat g plain likes |at u", 7);
    check.faulty(PLACES + "goat g plain likes |abababab", 7);
    check.faulty(PLACES + "goat g plain likes |ababababa", 1);
    check.faulty(GOAT + "found g |c u", 7);
    check.faulty(GOAT + "found g |aa u", 7);
    check.faulty(GOAT + "found g |ab u", 7);
    check.faulty(GOAT + "found g |hill", 7);
  }

  /** The first from the left, of one place the least number. */
  private static void order() {
    check.faulty("hill hours |1 plants 9;place a;;", 4);
    check.faulty("|place A", 6);
    check.faulty(PLACES + "path u |w w", 2);
    check.faulty("hill hours 2 plants 2;place a 1|", 1);
    check.faulty("hill hours 2 plants |", 1);
    check.faulty(PLACES + "place |u if if", 3);
  }
}
