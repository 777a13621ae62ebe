/** The promises by their numbers: ordinary calls, the edges that the document names, wrong calls. */
public final class PromisesTest {
  private static final Check check = new Check();

  /** Two CASES: x is in m all day, or in o and then in n; y is in o. */
  private static final String TWO = "hill hours 4 plants 2;place m 2,0;place n 0,1;place o 0,0;path m n;path n o;person x;"
      + "person y;story x m;story x o,n;story y o;goat g plain likes ab at m trust 7;goat k kid g likes b at n trust 6;"
      + "goat s shy likes ba at o trust 9;goat b billy likes a at m trust 5;fears g x;found s b n;seen g n 0;shied k o 3;"
      + "fact p;fact q;fact r;holds p;rule q if p;rule r if q, p;proof p, q, r;court c costs 10 wins 5;"
      + "court d costs 4 wins 2;cheese 2,1";

  /** A row of PLACES with nobody there: p has a and b, q has b, r has none, s has many a. */
  private static final String ROW = "hill hours 5 plants 2;place p 1,2;place q 0,1;place r 0,0;place s 9,0;path p q;path q r;"
      + "path r s";

  public static void main(String[] args) {
    newObject();
    feed();
    hill();
    faultAndWhere();
    asTold();
    stories();
    cases();
    grazing();
    salting();
    fleeing();
    billies();
    kids();
    dropping();
    meeting();
    clues();
    fitting();
    falseOnesAndOdds();
    proving();
    asking();
    leading();
    scaring();
    law();
    cheese();
    courts();
    acts();
    undoing();
    marking();
    putting();
    sizes();
    troubles();
    check.end();
  }

  private static GoatCourt on(String text) {
    GoatCourt x = new GoatCourt();
    int cases = Check.hill(x, text);
    check.due("hill of '" + text + "' taken (fault " + x.fault() + " at " + x.where() + ")", cases > 0, true);
    return x;
  }

  // Promise 1
  private static void newObject() {
    GoatCourt x = new GoatCourt();
    check.due("new: trouble()", x.trouble(), 0);
    check.due("new: fault()", x.fault(), 0);
    check.due("new: where()", x.where(), -1);
    for (int what = 0; what <= 14; what++) {
      check.due("new: size(" + what + ")", x.size(what), 0);
    }
    refuseAllWithoutHill(x);
  }

  private static void refuseAllWithoutHill(GoatCourt x) {
    check.refused(x, "plants", x.plants(0, 0), 1);
    check.refused(x, "near", x.near(0), 1);
    check.refused(x, "goat", x.goat(0, 0), 1);
    check.refused(x, "likes", x.likes(0, 0), 1);
    check.refused(x, "clue", x.clue(0, 0), 1);
    check.refused(x, "story", x.story(0, 0, 0), 1);
    check.refused(x, "stories", x.stories(0), 1);
    check.refused(x, "caseOf", x.caseOf(0, 0), 1);
    check.refused(x, "at", x.at(0, 0, 0), 1);
    check.refused(x, "ate", x.ate(0, 0, 0), 1);
    check.refused(x, "drops", x.drops(0, 0, 0, 0), 1);
    check.refused(x, "flees", x.flees(0, 0), 1);
    check.refused(x, "left", x.left(0, 0, 0), 1);
    check.refused(x, "met", x.met(0, 0, 0), 1);
    check.refused(x, "isTrue", x.isTrue(0, 0), 1);
    check.refused(x, "fits", x.fits(), 1);
    check.refused(x, "fit", x.fit(0), 1);
    check.refused(x, "could", x.could(0, 0), 1);
    check.refused(x, "surely", x.surely(0, 0), 1);
    check.refused(x, "lies", x.lies(0), 1);
    check.refused(x, "falseOnes", x.falseOnes(), 1);
    check.refused(x, "odds", x.odds(0), 1);
    check.refused(x, "likeliest", x.likeliest(), 1);
    check.refused(x, "proved", x.proved(0, 0, 0), 1);
    check.refused(x, "ask", x.ask(), 1);
    check.refused(x, "askMost", x.askMost(), 1);
    check.refused(x, "led", x.led(0, 0, 0, 0), 1);
    check.refused(x, "ledAt", x.ledAt(0, 0, 0, 0, 0), 1);
    check.refused(x, "scared", x.scared(0, 0, 0, 0), 1);
    check.refused(x, "follows", x.follows(0), 1);
    check.refused(x, "step", x.step(), 1);
    check.refused(x, "needs", x.needs(0), 1);
    check.refused(x, "enough", x.enough(0), 1);
    check.refused(x, "cheese", x.cheese(0), 1);
    check.refused(x, "cheeseOf", x.cheeseOf(0), 1);
    check.refused(x, "appeals", x.appeals(), 1);
    check.refused(x, "appealAt", x.appealAt(0), 1);
    check.refused(x, "salt", x.salt(0, 0, true), 1);
    check.refused(x, "dog", x.dog(0, 0, true), 1);
    check.refused(x, "hedge", x.hedge(0, true), 1);
    check.refused(x, "hear", x.hear(0, false), 1);
    check.refused(x, "undo", x.undo(), 6);
    check.refused(x, "mark", x.mark(), 1);
    check.refused(x, "back", x.back(0), 1);
    check.due("put without a hill", Check.put(x, 0, false), Check.THROWS);
    check.refused(x, "hill(1)", x.hill(1), 2);
  }

  // Promise 2
  private static void feed() {
    GoatCourt x = new GoatCourt();
    check.refused(x, "hill(-1)", x.hill(-1), 2);
    for (int i = 1; i <= 60; i++) {
      check.due("feed " + i, x.feed(0x68696c6c, 0x20202020, i, -1, 0), 20 * i);
    }
    check.due("feed beyond 1,200", x.feed(0, 0, 0, 0, 0), -1);
    check.due("trouble() isn't feed's", x.trouble(), 2);
    check.due("size(14) behind it", x.size(14), 1200);
    check.refused(x, "hill(1200)", x.hill(1200), 4);
    // the highest byte comes first: 'hill', blanks, then the byte 0 that begins no TOKEN
    check.due("fault()", x.fault(), 1);
    check.due("where()", x.where(), 8);
    check.due("size(14) is empty", x.size(14), 0);
    check.due("feed anew", x.feed(1, 2, 3, 4, 5), 20);
    GoatCourt full = new GoatCourt();
    StringBuilder text = new StringBuilder("hill hours 2 plants 1;place a 1");
    while (text.length() < 1200) {
      text.append(' ');
    }
    check.due("a hill of 1,200 bytes", Check.hill(full, text.toString()), 1);
  }

  // Promise 3
  private static void hill() {
    GoatCourt x = new GoatCourt();
    int n = Check.feed(x, TWO);
    check.refused(x, "hill(-1)", x.hill(-1), 2);
    check.refused(x, "hill(n) beyond", x.hill(x.size(14) + 1), 2);
    check.due("THE TAPE stays", x.size(14), (n + 19) / 20 * 20);
    check.fine(x, "hill(n)", x.hill(n), 2);
    check.due("THE TAPE is empty then", x.size(14), 0);
    x.salt(0, 0, true);
    x.dog(1, 1, true);
    x.hedge(0, true);
    x.hear(1, false);
    x.mark();
    check.refused(x, "a faulty one", Check.hill(x, "hill hours 2 plants 2;place"), 4);
    check.due("THE TAPE is empty behind a fault too", x.size(14), 0);
    check.due("the HILL stays", x.size(0), 4);
    check.due("its SALT stays", Check.put(x, 0, false), 0);
    check.due("its DOG stays", Check.put(x, 0, true), 101);
    check.due("its ACTS stay", x.size(12), 4);
    check.due("its MARKS stay", x.size(13), 1);
    check.due("what is HEARD stays", x.goat(1, 6), 0);
    check.due("its days stay", x.at(0, 0, 0), 0);
    check.due("its names stay", x.near(1), 5);
    check.fine(x, "the same text anew", Check.hill(x, TWO), 2);
    check.due("no SALT", Check.put(x, 0, false), Check.THROWS);
    check.due("no DOG", Check.put(x, 0, true), Check.THROWS);
    check.due("nothing to undo", x.size(12), 0);
    check.due("no MARKS", x.size(13), 0);
    check.due("all are HEARD", x.goat(1, 6), 1);
    check.due("no HEDGE", x.at(0, 0, 0), 1);
    Check.feed(x, "hill hours 2 plants 1;place a 1;person p;story p a;story p a");
    check.fine(x, "the first bytes alone", x.hill(50), 1);
    check.due("the rest of THE TAPE is gone", x.size(14), 0);
    check.due("no goats are left of the HILL before", x.size(5), 0);
    check.due("no clues are left of it", x.size(6), 0);
    check.due("no law is left of it", x.size(7) + x.size(8) + x.size(9), 0);
    check.due("no courts are left of it", x.size(10), 0);
    check.refused(x, "no cheese is left of it", x.cheese(0), 6);
    check.due("no paths are left of it", x.near(0), 0);
    check.taken("hill hours 3 plants 1;place a 1;person p;person q;person r;story p a;story p a;story r a;story r a;story r a", 6);
    check.taken("hill hours 2 plants 1;place a 1", 1);
  }

  // Promises 4 and 5
  private static void faultAndWhere() {
    GoatCourt x = new GoatCourt();
    Check.hill(x, "hill hours 2 plants 5");
    check.due("fault()", x.fault(), 4);
    check.due("where()", x.where(), 20);
    x.feed(0, 0, 0, 0, 0);
    check.due("feed leaves where()", x.where(), 20);
    x.size(3);
    x.trouble();
    Check.put(x, 0, true);
    check.due("so do size, trouble, put", x.where(), 20);
    x.hill(-5);
    check.due("fault() is of the latest not refused by 2", x.fault(), 4);
    check.due("where() is NONE then", x.where(), -1);
    x.hill(0);
    check.due("fault() of an empty text", x.fault(), 1);
    check.due("where() of an empty text", x.where(), 0);
    x.fits();
    check.due("where() behind another call", x.where(), -1);
    check.due("fault() behind another call", x.fault(), 1);
    Check.hill(x, ROW);
    check.due("fault() without one", x.fault(), 0);
    check.due("where() without one", x.where(), -1);
  }

  // Promises 6 to 10
  private static void asTold() {
    GoatCourt x = on("hill hours 3 plants 4;place a 9,0,3,1;place b 0,8,0,0;place c 1,1,1,1;path c a;path b c;person u;person v;"
        + "goat f shy likes dbca at c trust 3;goat h kid f likes a at b trust 9;goat i billy likes cd at a trust 1;"
        + "fears i v;fears f v;fears f u;found h d c;seen f b 0;shied f a 2");
    check.fine(x, "plants", x.plants(0, 0), 9);
    check.fine(x, "plants", x.plants(0, 2), 3);
    check.fine(x, "plants", x.plants(1, 1), 8);
    check.fine(x, "plants", x.plants(2, 3), 1);
    check.refused(x, "plants", x.plants(3, 0), 1);
    check.refused(x, "plants", x.plants(-1, 0), 1);
    check.refused(x, "plants", x.plants(0, 4), 1);
    check.refused(x, "plants", x.plants(0, -1), 1);
    check.fine(x, "near", x.near(0), 4);
    check.fine(x, "near", x.near(1), 4);
    check.fine(x, "near", x.near(2), 3);
    x.hedge(0, true);
    check.fine(x, "near, HEDGES aside", x.near(2), 3);
    check.refused(x, "near", x.near(3), 1);
    check.refused(x, "near", x.near(-1), 1);
    int[][] told = {{1, -2, 2, 3, 3, 2, 1}, {3, 0, 1, 9, 0, 1, 1}, {2, -2, 0, 1, 2, 0, 1}};
    for (int g = 0; g < 3; g++) {
      for (int what = 0; what < 7; what++) {
        check.fine(x, "goat(" + g + ", " + what + ")", x.goat(g, what), told[g][what]);
      }
    }
    x.hear(2, false);
    check.fine(x, "goat not HEARD", x.goat(2, 6), 0);
    check.refused(x, "goat", x.goat(3, 0), 1);
    check.refused(x, "goat", x.goat(-1, 0), 1);
    check.refused(x, "goat", x.goat(0, 7), 1);
    check.refused(x, "goat", x.goat(0, -1), 1);
    int[] order = {3, 1, 2, 0};
    for (int i = 0; i < 4; i++) {
      check.fine(x, "likes(0, " + i + ")", x.likes(0, i), order[i]);
    }
    check.fine(x, "likes", x.likes(2, 1), 3);
    check.refused(x, "likes", x.likes(0, 4), 1);
    check.refused(x, "likes", x.likes(0, -1), 1);
    check.refused(x, "likes", x.likes(1, 1), 1);
    check.refused(x, "likes", x.likes(3, 0), 1);
    check.refused(x, "likes", x.likes(-1, 0), 1);
    int[][] clues = {{0, 1, 2, 3}, {1, 0, 1, 0}, {2, 0, 0, 2}};
    for (int c = 0; c < 3; c++) {
      for (int what = 0; what < 4; what++) {
        check.fine(x, "clue(" + c + ", " + what + ")", x.clue(c, what), clues[c][what]);
      }
    }
    check.refused(x, "clue", x.clue(3, 0), 1);
    check.refused(x, "clue", x.clue(-1, 0), 1);
    check.refused(x, "clue", x.clue(0, 4), 1);
    check.refused(x, "clue", x.clue(0, -1), 1);
  }

  private static final String THREE = "hill hours 4 plants 1;place a 1;place b 1;place c 1;person t;person u;person v;person w;"
      + "story v c,b;story t a,b,c,a;story t b;story w b;story w c;story t c,a";

  // Promises 11 and 12
  private static void stories() {
    GoatCourt x = on(THREE);
    int[][] told = {{0, 1, 2, 0}, {1, 1, 1, 1}, {2, 0, 0, 0}};
    for (int i = 0; i < 3; i++) {
      for (int hour = 0; hour < 4; hour++) {
        check.fine(x, "story(0, " + i + ", " + hour + ")", x.story(0, i, hour), told[i][hour]);
      }
    }
    check.fine(x, "story", x.story(2, 0, 0), 2);
    check.fine(x, "story", x.story(2, 0, 3), 1);
    check.refused(x, "story of nobody", x.story(4, 0, 0), 1);
    check.refused(x, "story of nobody", x.story(-1, 0, 0), 1);
    check.refused(x, "a story there isn't", x.story(0, 3, 0), 1);
    check.refused(x, "a story there isn't", x.story(0, -1, 0), 1);
    check.refused(x, "of one who has none", x.story(1, 0, 0), 1);
    check.refused(x, "an hour there isn't", x.story(0, 0, 4), 2);
    check.refused(x, "an hour there isn't", x.story(0, 0, -1), 2);
    check.refused(x, "1 ahead of 2", x.story(0, 3, 4), 1);
    int[] counts = {3, 0, 1, 2};
    for (int p = 0; p < 4; p++) {
      check.fine(x, "stories(" + p + ")", x.stories(p), counts[p]);
    }
    check.refused(x, "stories", x.stories(4), 1);
    check.refused(x, "stories", x.stories(-1), 1);
  }

  // Promise 13
  private static void cases() {
    GoatCourt x = on(THREE);
    check.due("CASES", x.size(11), 6);
    for (int c = 0; c < 6; c++) {
      check.fine(x, "caseOf(" + c + ", 0)", x.caseOf(c, 0), c / 2);
      check.fine(x, "caseOf(" + c + ", 1)", x.caseOf(c, 1), -2);
      check.fine(x, "caseOf(" + c + ", 2)", x.caseOf(c, 2), 0);
      check.fine(x, "caseOf(" + c + ", 3)", x.caseOf(c, 3), c % 2);
    }
    check.refused(x, "caseOf", x.caseOf(6, 0), 1);
    check.refused(x, "caseOf", x.caseOf(-1, 0), 1);
    check.refused(x, "caseOf", x.caseOf(0, 4), 1);
    check.refused(x, "caseOf", x.caseOf(0, -1), 1);
    GoatCourt most = on("hill hours 2 plants 1;place a 1;person t;person u;person v;person w;story t a;story t a;story t a;"
        + "story u a;story u a;story u a;story v a;story v a;story v a;story w a;story w a;story w a");
    check.due("CASES at most", most.size(11), 81);
    check.due("the last CASE", most.caseOf(80, 0) + most.caseOf(80, 3), 4);
  }

  private static void at(GoatCourt x, int c, int g, int... places) {
    for (int hour = 0; hour < places.length; hour++) {
      check.fine(x, "at(" + c + ", " + g + ", " + hour + ")", x.at(c, g, hour), places[hour]);
    }
  }

  // Promises 14, 15, 18
  private static void grazing() {
    // it eats b, b, a in p, then sees b in q: goes, and has no hour left to eat
    GoatCourt x = on(ROW + ";goat g plain likes ba at p trust 5");
    at(x, 0, 0, 0, 0, 0, 1, 1);
    check.fine(x, "ate a", x.ate(0, 0, 0), 1);
    check.fine(x, "ate b", x.ate(0, 0, 1), 3);
    check.fine(x, "left a", x.left(0, 0, 0), 0);
    check.fine(x, "left b", x.left(0, 0, 1), 0);
    check.fine(x, "left b in q", x.left(0, 1, 1), 0);
    check.fine(x, "left a in s", x.left(0, 3, 0), 9);
    check.fine(x, "plants are as at first", x.plants(0, 1), 2);
    // a alone: one hour, then nothing it likes is near
    x = on(ROW + ";goat g plain likes a at p trust 5");
    at(x, 0, 0, 0, 0, 0, 0, 0);
    check.fine(x, "ate a", x.ate(0, 0, 0), 1);
    check.fine(x, "ate b", x.ate(0, 0, 1), 0);
    // from r both q (rank 1) and s (rank 0) can be gone to
    x = on(ROW + ";goat g plain likes ab at r trust 5;goat h plain likes ba at r trust 5");
    at(x, 0, 0, 3, 3);
    at(x, 0, 1, 1, 1);
    // of like PLACES the first
    x = on("hill hours 2 plants 1;place a 0;place b 1;place c 1;path a c;path a b;goat g plain likes a at a trust 5");
    at(x, 0, 0, 1, 1);
    // the goats by numbers: the second one finds what the first has left
    x = on("hill hours 2 plants 1;place a 1;goat g plain likes a at a trust 5;goat h plain likes a at a trust 5");
    check.fine(x, "the first ate", x.ate(0, 0, 0), 1);
    check.fine(x, "the second didn't", x.ate(0, 1, 0), 0);
    check.refused(x, "at", x.at(1, 0, 0), 1);
    check.refused(x, "at", x.at(-1, 0, 0), 1);
    check.refused(x, "at", x.at(0, 2, 0), 1);
    check.refused(x, "at", x.at(0, -1, 0), 1);
    check.refused(x, "at", x.at(0, 0, 2), 2);
    check.refused(x, "at", x.at(0, 0, -1), 2);
    check.refused(x, "at, 1 ahead of 2", x.at(0, 2, 2), 1);
    check.refused(x, "ate", x.ate(1, 0, 0), 1);
    check.refused(x, "ate", x.ate(-1, 0, 0), 1);
    check.refused(x, "ate", x.ate(0, 2, 0), 1);
    check.refused(x, "ate", x.ate(0, -1, 0), 1);
    check.refused(x, "ate", x.ate(0, 0, 1), 1);
    check.refused(x, "ate", x.ate(0, 0, -1), 1);
    check.refused(x, "left", x.left(1, 0, 0), 1);
    check.refused(x, "left", x.left(-1, 0, 0), 1);
    check.refused(x, "left", x.left(0, 1, 0), 1);
    check.refused(x, "left", x.left(0, -1, 0), 1);
    check.refused(x, "left", x.left(0, 0, 1), 1);
    check.refused(x, "left", x.left(0, 0, -1), 1);
  }

  // Term II: SALT
  private static void salting() {
    GoatCourt x = on("hill hours 4 plants 1;place a 2;place b 0;place c 0;place d 0;path a c;path a b;path c d;"
        + "goat g plain likes a at a trust 5");
    at(x, 0, 0, 0, 0, 0, 0);
    x.salt(2, 1, true);
    // hour 0 it eats, hour 1 it goes to the SALT, hour 2 it comes back for the plant
    at(x, 0, 0, 0, 2, 0, 0);
    check.fine(x, "ate", x.ate(0, 0, 0), 2);
    x.salt(1, 1, true);
    at(x, 0, 0, 0, 1, 0, 0);
    x.salt(0, 1, true);
    // SALT where it is: it stays, and eats nothing in that hour
    at(x, 0, 0, 0, 0, 0, 0);
    check.fine(x, "ate", x.ate(0, 0, 0), 2);
    x.salt(0, 2, true);
    check.fine(x, "ate, with SALT for two hours", x.ate(0, 0, 0), 2);
    x.salt(1, 1, false);
    x.salt(2, 1, false);
    x.salt(0, 3, true);
    check.fine(x, "ate, with SALT for three hours", x.ate(0, 0, 0), 1);
    check.fine(x, "left", x.left(0, 0, 0), 1);
    // too far to go in an hour, or behind a HEDGE
    x = on("hill hours 2 plants 1;place a 0;place b 0;place c 0;path a b;path b c;goat g plain likes a at a trust 5");
    x.salt(2, 0, true);
    at(x, 0, 0, 0, 0);
    x.salt(1, 0, true);
    at(x, 0, 0, 1, 1);
    x.hedge(0, true);
    at(x, 0, 0, 0, 0);
    x.hedge(0, false);
    x.dog(1, 0, true);
    at(x, 0, 0, 0, 0);
  }

  // Promise 17
  private static void fleeing() {
    String hill = "hill hours 3 plants 2;place a 5,0;place b 0,0;place c 0,4;place d 5,0;path a b;path a c;path a d;person x;"
        + "person y;story x a;story y d;";
    // g fears x in a, y not: d has what it likes best
    GoatCourt x = on(hill + "goat g plain likes ab at a trust 5;fears g x");
    at(x, 0, 0, 3, 3, 3);
    check.fine(x, "flees", x.flees(0, 0), 1);
    check.fine(x, "ate", x.ate(0, 0, 0), 2);
    // a shy one fears y in d as well: then c
    x = on(hill + "goat g shy likes ab at a trust 5");
    at(x, 0, 0, 2, 2, 2);
    check.fine(x, "flees", x.flees(0, 0), 1);
    // one that likes nothing else goes to the first PLACE without fear
    x = on(hill + "goat g shy likes a at a trust 5");
    at(x, 0, 0, 1, 1, 1);
    check.fine(x, "flees", x.flees(0, 0), 1);
    x.hedge(0, true);
    at(x, 0, 0, 2, 2, 2);
    x.hedge(1, true);
    // nowhere to go: it stays, eats nothing, and that isn't counted
    at(x, 0, 0, 0, 0, 0);
    check.fine(x, "flees", x.flees(0, 0), 0);
    check.fine(x, "ate", x.ate(0, 0, 0), 0);
    x.undo();
    x.undo();
    x.salt(2, 0, true);
    // SALT is worth most, in flight too
    at(x, 0, 0, 2, 2, 2);
    x.salt(0, 0, true);
    at(x, 0, 0, 2, 2, 2);
    // who fears nobody stays and eats
    x = on(hill + "goat g plain likes a at a trust 5");
    at(x, 0, 0, 0, 0, 0);
    check.fine(x, "flees", x.flees(0, 0), 0);
    x.dog(0, 1, true);
    at(x, 0, 0, 0, 3, 3);
    check.fine(x, "flees a DOG", x.flees(0, 0), 1);
    x.dog(3, 1, true);
    at(x, 0, 0, 0, 1, 0);
    check.fine(x, "flees a DOG, and not to another", x.flees(0, 0), 1);
    check.refused(x, "flees", x.flees(1, 0), 1);
    check.refused(x, "flees", x.flees(-1, 0), 1);
    check.refused(x, "flees", x.flees(0, 1), 1);
    check.refused(x, "flees", x.flees(0, -1), 1);
  }

  // Term II: a billy
  private static void billies() {
    GoatCourt x = on("hill hours 4 plants 2;place a 3,1;place b 0,1;path a b;person x;story x a;"
        + "goat g billy likes ab at a trust 5;fears g x");
    x.dog(0, 0, true);
    x.dog(1, 3, true);
    // two, then the one that there is, then one b, then to b
    at(x, 0, 0, 0, 0, 0, 1);
    check.fine(x, "ate a", x.ate(0, 0, 0), 3);
    check.fine(x, "ate b", x.ate(0, 0, 1), 1);
    check.fine(x, "flees nothing", x.flees(0, 0), 0);
    check.fine(x, "it is told to fear", x.goat(0, 4), 1);
    check.fine(x, "drops two a", x.drops(0, 0, 0, 0), 2);
    check.fine(x, "drops one a", x.drops(0, 0, 0, 1), 1);
  }

  // Term II: a kid
  private static void kids() {
    String hill = "hill hours 3 plants 1;place a 0;place b 9;place c 9;place d 0;path a b;path c d;person x;story x b;";
    GoatCourt x = on(hill + "goat m plain likes a at a trust 5;goat k kid m likes a at a trust 5;fears k x");
    // the mother goes first, the kid behind her in the same hour, whatever it fears; there it flees
    at(x, 0, 0, 1, 1, 1);
    at(x, 0, 1, 1, 0, 1);
    check.fine(x, "following is no fleeing", x.flees(0, 1), 1);
    check.fine(x, "who follows eats nothing", x.ate(0, 1, 0), 0);
    x.hedge(0, true);
    at(x, 0, 0, 0, 0, 0);
    at(x, 0, 1, 0, 0, 0);
    // a mother too far away: it does as other goats do
    x = on(hill + "goat m plain likes a at a trust 5;goat k kid m likes a at d trust 5");
    at(x, 0, 1, 2, 2, 2);
    check.fine(x, "it eats", x.ate(0, 1, 0), 2);
    // the kid of a kid, and a HEDGE ahead of the mother
    x = on("hill hours 2 plants 1;place a 0;place b 9;path a b;goat m plain likes a at a trust 5;goat k kid m likes a at a trust 5;"
        + "goat l kid k likes a at a trust 5");
    at(x, 0, 2, 1, 1);
    x.hedge(0, true);
    at(x, 0, 2, 0, 0);
    // it goes to her though there is SALT where it is, and to where a DOG is
    x = on("hill hours 2 plants 1;place a 0;place b 9;path a b;goat m plain likes a at b trust 5;goat k kid m likes a at a trust 5");
    x.salt(0, 0, true);
    x.dog(1, 1, true);
    at(x, 0, 0, 0, 0);
    at(x, 0, 1, 0, 0);
    x.salt(0, 0, false);
    at(x, 0, 0, 1, 0);
    at(x, 0, 1, 1, 0);
  }

  // Promise 16
  private static void dropping() {
    GoatCourt x = on("hill hours 4 plants 2;place a 1,0;place b 0,9;path a b;goat g plain likes ab at a trust 5");
    // a in hour 0, gone to b in hour 1, b in hours 2 and 3: a drops in b in hour 2, b not any more
    at(x, 0, 0, 0, 1, 1, 1);
    check.fine(x, "ate a", x.ate(0, 0, 0), 1);
    check.fine(x, "ate b", x.ate(0, 0, 1), 2);
    check.fine(x, "drops a in a", x.drops(0, 0, 0, 0), 0);
    check.fine(x, "drops a in b", x.drops(0, 0, 0, 1), 1);
    check.fine(x, "drops b in b", x.drops(0, 0, 1, 1), 0);
    // in the last hour too, behind its going
    x = on("hill hours 3 plants 1;place a 1;place b 9;path a b;goat g plain likes a at a trust 5");
    x.salt(0, 1, true);
    at(x, 0, 0, 0, 0, 1);
    check.fine(x, "drops where it has gone", x.drops(0, 0, 0, 1), 1);
    check.fine(x, "not where it was", x.drops(0, 0, 0, 0), 0);
    x = on("hill hours 2 plants 1;place a 9;goat g plain likes a at a trust 5");
    check.fine(x, "ate", x.ate(0, 0, 0), 2);
    check.fine(x, "a day of two hours is too short", x.drops(0, 0, 0, 0), 0);
    check.refused(x, "drops", x.drops(1, 0, 0, 0), 1);
    check.refused(x, "drops", x.drops(-1, 0, 0, 0), 1);
    check.refused(x, "drops", x.drops(0, 1, 0, 0), 1);
    check.refused(x, "drops", x.drops(0, -1, 0, 0), 1);
    check.refused(x, "drops", x.drops(0, 0, 1, 0), 1);
    check.refused(x, "drops", x.drops(0, 0, -1, 0), 1);
    check.refused(x, "drops", x.drops(0, 0, 0, 1), 1);
    check.refused(x, "drops", x.drops(0, 0, 0, -1), 1);
  }

  // Promise 19
  private static void meeting() {
    GoatCourt x = on(TWO + ";person z");
    check.fine(x, "met", x.met(0, 1, 0), 0);
    check.fine(x, "met", x.met(1, 1, 0), 2);
    check.fine(x, "met", x.met(0, 3, 0), 4);
    check.fine(x, "met where both are then, not where it was", x.met(0, 2, 1), 0);
    check.fine(x, "met who is nowhere", x.met(0, 0, 2), 0);
    check.refused(x, "met", x.met(2, 0, 0), 1);
    check.refused(x, "met", x.met(-1, 0, 0), 1);
    check.refused(x, "met", x.met(0, 4, 0), 1);
    check.refused(x, "met", x.met(0, -1, 0), 1);
    check.refused(x, "met", x.met(0, 0, 3), 1);
    check.refused(x, "met", x.met(0, 0, -1), 1);
  }

  // Promise 20
  private static void clues() {
    GoatCourt x = on("hill hours 4 plants 2;place a 1,0;place b 0,9;path a b;goat g plain likes ab at a trust 5;found g a b;"
        + "found g a a;found g b b;seen g a 0;seen g b 0;shied g a 1;shied g b 1");
    int[] due = {1, 0, 0, 1, 0, 1, 0};
    for (int k = 0; k < due.length; k++) {
      check.fine(x, "isTrue(0, " + k + ")", x.isTrue(0, k), due[k]);
    }
    x.hear(0, false);
    check.fine(x, "isTrue, HEARD or not", x.isTrue(0, 0), 1);
    check.refused(x, "isTrue", x.isTrue(1, 0), 1);
    check.refused(x, "isTrue", x.isTrue(-1, 0), 1);
    check.refused(x, "isTrue", x.isTrue(0, 7), 1);
    check.refused(x, "isTrue", x.isTrue(0, -1), 1);
  }

  /** Goats that flee x wherever he comes: four PLACES round m, x has three stories, y has two and z none. */
  private static final String STAR = "hill hours 2 plants 1;place m 0;place a 0;place b 0;place c 0;path m a;path m b;path m c;"
      + "person x;person y;person z;story x a;story x b;story x c,a;story y a;story y b;"
      + "goat f plain likes a at a trust 8;goat g plain likes a at b trust 7;goat h plain likes a at c trust 6;"
      + "goat i plain likes a at m trust 9;fears f x;fears g x;fears h x;";

  // Promises 21 to 25
  private static void fitting() {
    GoatCourt x = on(STAR + "seen f a 0");
    // f stays in a if x isn't there in hour 0
    check.fine(x, "fits", x.fits(), 4);
    int[] due = {2, 3, 4, 5};
    for (int i = 0; i < 4; i++) {
      check.fine(x, "fit(" + i + ")", x.fit(i), due[i]);
    }
    check.refused(x, "fit", x.fit(4), 1);
    check.refused(x, "fit", x.fit(-1), 1);
    check.fine(x, "could", x.could(0, 0), 12);
    check.fine(x, "could", x.could(0, 1), 6);
    check.fine(x, "could, y", x.could(1, 0), 6);
    check.fine(x, "could, nowhere", x.could(2, 0), 0);
    check.fine(x, "surely", x.surely(0, 0), -2);
    check.fine(x, "surely, nowhere", x.surely(2, 0), -2);
    check.fine(x, "lies", x.lies(0), 1);
    check.fine(x, "lies, y", x.lies(1), 0);
    check.fine(x, "lies, who has none", x.lies(2), 0);
    x.hear(0, false);
    check.fine(x, "fits, f not HEARD", x.fits(), 6);
    check.fine(x, "lies, f not HEARD", x.lies(0), 0);
    x = on(STAR + "seen f a 0;seen g b 0");
    check.fine(x, "fits", x.fits(), 2);
    check.fine(x, "surely", x.surely(0, 0), 3);
    check.fine(x, "surely", x.surely(0, 1), 1);
    check.fine(x, "surely, y", x.surely(1, 0), -2);
    check.fine(x, "could", x.could(0, 0), 8);
    check.fine(x, "lies", x.lies(0), 3);
    x = on(STAR + "seen f a 0;shied f a 0");
    check.fine(x, "fits none", x.fits(), 0);
    check.refused(x, "fit none", x.fit(0), 1);
    check.fine(x, "could be nowhere", x.could(0, 0), 0);
    check.fine(x, "surely nowhere", x.surely(0, 0), -2);
    check.fine(x, "all are lies", x.lies(0), 7);
    check.fine(x, "all are lies", x.lies(1), 3);
    check.refused(x, "could", x.could(3, 0), 1);
    check.refused(x, "could", x.could(-1, 0), 1);
    check.refused(x, "could", x.could(0, 2), 2);
    check.refused(x, "could", x.could(0, -1), 2);
    check.refused(x, "could", x.could(3, 2), 1);
    check.refused(x, "surely", x.surely(3, 0), 1);
    check.refused(x, "surely", x.surely(-1, 0), 1);
    check.refused(x, "surely", x.surely(0, 2), 2);
    check.refused(x, "surely", x.surely(0, -1), 2);
    check.refused(x, "lies", x.lies(3), 1);
    check.refused(x, "lies", x.lies(-1), 1);
    // without CLUES all fit; an ACT changes what fits
    x = on(STAR + "shied i m 0");
    check.fine(x, "fits", x.fits(), 0);
    x.dog(0, 0, true);
    check.fine(x, "fits, with a DOG", x.fits(), 6);
    check.fine(on(ROW), "fits without people", on(ROW).fits(), 1);
  }

  // Promises 26 to 28
  private static void falseOnesAndOdds() {
    GoatCourt x = on(STAR + "seen f m 0;seen g m 0;seen h m 1");
    // x would be in a, and in b; h never leaves c in hour 1, but in hour 0 of the third story
    check.fine(x, "falseOnes", x.falseOnes(), 3);
    check.fine(x, "odds(0)", x.odds(0), 8 * 3 * 4);
    check.fine(x, "odds(1)", x.odds(1), 8 * 3 * 4);
    check.fine(x, "odds(2)", x.odds(2), 2 * 7 * 4);
    check.fine(x, "odds(4)", x.odds(4), 2 * 3 * 6);
    check.fine(x, "likeliest", x.likeliest(), 0);
    x.hear(0, false);
    check.fine(x, "falseOnes, f not HEARD", x.falseOnes(), 2);
    check.fine(x, "odds(0), f not HEARD", x.odds(0), 3 * 4);
    check.fine(x, "likeliest, f not HEARD", x.likeliest(), 2);
    x.hear(1, false);
    check.fine(x, "falseOnes", x.falseOnes(), 0);
    check.fine(x, "likeliest", x.likeliest(), 4);
    x.hear(2, false);
    check.fine(x, "odds, none HEARD", x.odds(3), 1);
    check.fine(x, "likeliest, none HEARD", x.likeliest(), 0);
    check.refused(x, "odds", x.odds(6), 1);
    check.refused(x, "odds", x.odds(-1), 1);
    // two goats are needed, by the least bits
    x = on(STAR + "seen f m 0;seen g m 0;seen i m 0;seen i m 1");
    check.fine(x, "falseOnes, the least bits", x.falseOnes(), 1);
    check.fine(x, "odds", x.odds(0), 8 * 3 * 9);
    x = on(STAR + "seen i m 0;seen i a 1;seen f a 1");
    check.fine(x, "a goat with one CLUE false is false", x.falseOnes(), 8);
    check.fine(x, "its odds", x.odds(2), 8);
    check.fine(on(ROW), "falseOnes without goats", on(ROW).falseOnes(), 0);
    check.fine(on(ROW), "odds without goats", on(ROW).odds(0), 1);
    check.fine(on(ROW), "likeliest without people", on(ROW).likeliest(), 0);
  }

  // Promise 29
  private static void proving() {
    GoatCourt x = on(STAR + "seen f a 0;seen g b 0;seen h m 0;seen i m 0");
    check.fine(x, "proved by h alone", x.proved(0, 3, 0), 4);
    check.fine(x, "proved", x.proved(0, 1, 0), -2);
    check.fine(x, "not proved for y", x.proved(1, 1, 0), -2);
    check.fine(x, "not proved for who is nowhere", x.proved(2, 1, 0), -2);
    x.hear(2, false);
    check.fine(x, "proved, HEARD or not", x.proved(0, 3, 0), 4);
    x = on(STAR + "seen f a 0;seen g b 0;seen i m 0");
    check.fine(x, "proved by both", x.proved(0, 3, 0), 3);
    x = on(STAR + "seen f a 0;shied f a 0;seen g m 0");
    check.fine(x, "a CASE is needed", x.proved(0, 1, 0), -2);
    check.fine(x, "the fewest", x.proved(0, 2, 0), 2);
    x = on(STAR + "seen f m 0;seen g b 0;seen h c 0;shied f a 0;seen i m 0");
    check.fine(x, "the least bits", x.proved(0, 1, 0), 1);
    x = on(TWO);
    check.fine(x, "proved by none", x.proved(1, 2, 0), 0);
    check.refused(x, "proved", x.proved(2, 0, 0), 1);
    check.refused(x, "proved", x.proved(-1, 0, 0), 1);
    check.refused(x, "proved", x.proved(0, 3, 0), 1);
    check.refused(x, "proved", x.proved(0, -1, 0), 1);
    check.refused(x, "proved", x.proved(0, 0, 4), 2);
    check.refused(x, "proved", x.proved(0, 0, -1), 2);
    check.refused(x, "proved", x.proved(2, 0, 4), 1);
  }

  // Promises 30 and 31
  private static void asking() {
    GoatCourt x = on(STAR + "seen i m 0");
    // behind hour 0 f is in m in 2 of 6 CASES, in a in 4; behind hour 1 where it went is where it stays, or flees to
    check.fine(x, "ask", x.ask(), 0);
    check.fine(x, "askMost", x.askMost(), 4);
    x = on(STAR + "seen f a 0");
    // of CASES 2 to 5 f knows nothing in hour 0, in hour 1 it flees x's third story
    check.fine(x, "ask", x.ask(), 1);
    check.fine(x, "askMost", x.askMost(), 2);
    x = on(STAR + "shied i m 0");
    check.refused(x, "ask, none fits", x.ask(), 6);
    check.refused(x, "askMost, none fits", x.askMost(), 6);
    x = on(ROW + ";goat g plain likes a at p trust 5");
    check.refused(x, "ask, one fits", x.ask(), 6);
    x = on("hill hours 2 plants 1;place a 1;person p;story p a;story p a");
    check.refused(x, "ask, no goat", x.ask(), 6);
    check.refused(x, "askMost, no goat", x.askMost(), 6);
    x = on("hill hours 2 plants 1;place a 1;person p;story p a;story p a;goat g plain likes a at a trust 1;"
        + "goat h plain likes a at a trust 1");
    check.fine(x, "ask, nothing helps", x.ask(), 0);
    check.fine(x, "askMost, nothing helps", x.askMost(), 2);
    // the second goat, the second hour: it alone fears him, and he comes late
    x = on("hill hours 3 plants 1;place a 0;place b 0;path a b;person p;story p b;story p b,a;goat g billy likes a at a trust 1;"
        + "goat h shy likes a at a trust 1");
    check.fine(x, "ask", x.ask(), 101);
    check.fine(x, "askMost", x.askMost(), 1);
    x.hear(1, false);
    check.fine(x, "ask, HEARD or not", x.ask(), 101);
  }

  // Promises 32 and 33
  private static void leading() {
    String line = "hill hours 4 plants 1;place a 0;place b 0;place c 0;place d 0;path a b;path b c;path c d;"
        + "goat g plain likes a at a trust 5";
    GoatCourt x = on(line);
    check.fine(x, "led, 0", x.led(0, 0, 0, 3), 0);
    check.refused(x, "ledAt, 0", x.ledAt(0, 0, 0, 3, 0), 1);
    check.fine(x, "led, 1", x.led(0, 0, 1, 3), 1);
    check.fine(x, "ledAt, the first hour", x.ledAt(0, 0, 1, 3, 0), 100);
    check.refused(x, "ledAt, 1", x.ledAt(0, 0, 1, 3, 1), 1);
    check.refused(x, "ledAt, -1", x.ledAt(0, 0, 1, 3, -1), 1);
    check.fine(x, "led, 2", x.led(0, 0, 2, 3), 2);
    check.fine(x, "ledAt, its first", x.ledAt(0, 0, 2, 3, 0), 100);
    check.fine(x, "ledAt, its second", x.ledAt(0, 0, 2, 3, 1), 201);
    check.refused(x, "ledAt, 2", x.ledAt(0, 0, 2, 3, 2), 1);
    check.fine(x, "led, 2 in time", x.led(0, 0, 2, 1), 2);
    check.fine(x, "led, not in time", x.led(0, 0, 2, 0), -2);
    check.fine(x, "led, too far", x.led(0, 0, 3, 3), -2);
    check.refused(x, "ledAt, too far", x.ledAt(0, 0, 3, 3, 0), 1);
    x.salt(1, 0, true);
    check.fine(x, "SALTS more", x.led(0, 0, 2, 3), 1);
    check.fine(x, "SALTS more", x.ledAt(0, 0, 2, 3, 0), 201);
    check.fine(x, "SALTS more", x.led(0, 0, 3, 3), 2);
    check.fine(x, "nothing stays put", Check.put(x, 0, false), 100);
    check.due("nothing stays put", Check.put(x, 1, false), Check.THROWS);
    check.due("nothing can be undone but the ACT", x.size(12), 1);
    x.salt(2, 0, true);
    x.salt(3, 0, true);
    x.salt(3, 1, true);
    // four are put already, three of them too far away: the document sets no bound to those that are thought of
    check.fine(x, "SALTS more than there is room for", x.led(0, 0, 2, 3), 1);
    // by PLACES ahead of hours: the pair whose first spot is least, whichever comes first by the hour
    x = on("hill hours 3 plants 1;place d 0;place c 0;place b 0;place a 0;path a b;path b c;path c d;"
        + "goat g plain likes a at a trust 5");
    check.fine(x, "led", x.led(0, 0, 1, 2), 2);
    check.fine(x, "ledAt", x.ledAt(0, 0, 1, 2, 0), 101);
    check.fine(x, "ledAt", x.ledAt(0, 0, 1, 2, 1), 200);
    check.refused(x, "led", x.led(1, 0, 0, 0), 1);
    check.refused(x, "led", x.led(-1, 0, 0, 0), 1);
    check.refused(x, "led", x.led(0, 1, 0, 0), 1);
    check.refused(x, "led", x.led(0, -1, 0, 0), 1);
    check.refused(x, "led", x.led(0, 0, 4, 0), 1);
    check.refused(x, "led", x.led(0, 0, -1, 0), 1);
    check.refused(x, "led", x.led(0, 0, 0, 3), 2);
    check.refused(x, "led", x.led(0, 0, 0, -1), 2);
    check.refused(x, "led", x.led(0, 0, 4, 3), 1);
    check.refused(x, "ledAt", x.ledAt(1, 0, 0, 0, 0), 1);
    check.refused(x, "ledAt", x.ledAt(0, 1, 0, 0, 0), 1);
    check.refused(x, "ledAt", x.ledAt(0, 0, 4, 0, 0), 1);
    check.refused(x, "ledAt", x.ledAt(0, 0, 0, 3, 0), 2);
    check.refused(x, "ledAt, the hour ahead of i", x.ledAt(0, 0, 0, 3, 9), 2);
    // a kid is led by its mother's SALT
    x = on("hill hours 2 plants 1;place a 0;place b 0;path a b;goat m plain likes a at a trust 5;goat k kid m likes a at a trust 5");
    check.fine(x, "led by its mother", x.led(0, 1, 1, 1), 1);
    check.fine(x, "led by its mother", x.ledAt(0, 1, 1, 1, 0), 100);
  }

  // Promise 34
  private static void scaring() {
    GoatCourt x = on("hill hours 4 plants 1;place a 9;place b 0;place c 0;place d 0;path a b;path b c;path c d;path a c;"
        + "goat g plain likes a at a trust 5;goat h billy likes a at a trust 5");
    check.fine(x, "scared, 0", x.scared(0, 0, 0, 0), 0);
    check.fine(x, "scared, 1", x.scared(0, 0, 1, 0), 1);
    // a DOG in a and one in b: it goes to c
    check.fine(x, "scared, 2", x.scared(0, 0, 2, 0), 2);
    check.fine(x, "scared, -2", x.scared(0, 0, 3, 0), -2);
    check.fine(x, "a billy isn't scared", x.scared(0, 1, 1, 3), -2);
    x.dog(1, 0, true);
    check.fine(x, "DOGS more", x.scared(0, 0, 2, 0), 1);
    check.due("nothing stays put", Check.put(x, 1, true), Check.THROWS);
    check.refused(x, "scared", x.scared(1, 0, 0, 0), 1);
    check.refused(x, "scared", x.scared(-1, 0, 0, 0), 1);
    check.refused(x, "scared", x.scared(0, 2, 0, 0), 1);
    check.refused(x, "scared", x.scared(0, -1, 0, 0), 1);
    check.refused(x, "scared", x.scared(0, 0, 4, 0), 1);
    check.refused(x, "scared", x.scared(0, 0, -1, 0), 1);
    check.refused(x, "scared", x.scared(0, 0, 0, 4), 2);
    check.refused(x, "scared", x.scared(0, 0, 0, -1), 2);
  }

  private static final String PLAIN = "hill hours 2 plants 1;place z 1;";

  // Promises 35 to 38
  private static void law() {
    GoatCourt x = on(PLAIN + "fact a;fact b;fact c;fact d;fact e;fact f;holds b;holds a;rule d if c;rule c if a,b;rule c if b;"
        + "rule e if f;rule f if e;rule e if e;proof b,c,a,d,c");
    int[] follows = {1, 1, 1, 1, 0, 0};
    int[] needs = {0, 0, 0, 1, -2, -2};
    int[] enough = {1, 2, 2, 2, -2, -2};
    for (int f = 0; f < 6; f++) {
      check.fine(x, "follows(" + f + ")", x.follows(f), follows[f]);
      check.fine(x, "needs(" + f + ")", x.needs(f), needs[f]);
      check.fine(x, "enough(" + f + ")", x.enough(f), enough[f]);
    }
    check.fine(x, "step, all are right", x.step(), -2);
    check.refused(x, "follows", x.follows(6), 1);
    check.refused(x, "follows", x.follows(-1), 1);
    check.refused(x, "needs", x.needs(6), 1);
    check.refused(x, "needs", x.needs(-1), 1);
    check.refused(x, "enough", x.enough(6), 1);
    check.refused(x, "enough", x.enough(-1), 1);
    // a chain that goes against the rules' order, eight FACTS long
    x = on(PLAIN + "fact a;fact b;fact c;fact d;fact e;fact f;fact g;fact h;rule a if b;rule b if c;rule c if d;rule d if e;"
        + "rule e if f;rule f if g;rule g if h;holds h;proof h,g,f,d");
    check.fine(x, "follows by seven rules", x.follows(0), 1);
    check.fine(x, "needs all seven", x.needs(0), 127);
    check.fine(x, "enough", x.enough(0), 128);
    check.fine(x, "step: e isn't ahead of d", x.step(), 3);
    // the fewest, then the least bits
    x = on(PLAIN + "fact a;fact b;fact c;fact d;fact e;holds a;holds b;holds c;holds d;rule e if a,b;rule e if d;rule e if c");
    check.fine(x, "enough, the fewest", x.enough(4), 4);
    check.fine(x, "needs none by itself", x.needs(4), 0);
    x = on(PLAIN + "fact a;fact b;fact c;fact d;fact e;holds a;holds b;holds c;rule e if a,b,c;rule d if e;proof a,d");
    check.fine(x, "enough, all three", x.enough(3), 7);
    check.fine(x, "needs both", x.needs(3), 3);
    check.fine(x, "step", x.step(), 1);
    x = on(PLAIN + "fact a;fact b;rule a if a;proof a");
    check.fine(x, "a step isn't ahead of itself", x.step(), 0);
    x = on(PLAIN + "fact a;holds a;proof a,a,a,a,a,a,a,a");
    check.fine(x, "steps again", x.step(), -2);
    check.due("eight steps", x.size(9), 8);
    x = on(PLAIN + "fact a");
    check.refused(x, "no proof", x.step(), 6);
  }

  // Promises 39 and 40
  private static void cheese() {
    String hill = "hill hours 2 plants 2;place p 9,0;place q 0,9;goat f plain likes a at p trust 5;goat g plain likes a at p trust 5;"
        + "goat h plain likes b at q trust 5;goat i plain likes a at q trust 5;cheese ";
    GoatCourt x = on(hill + "2,2");
    // f or g with h, and i, who ate nothing, or not
    check.fine(x, "cheese", x.cheese(0), 4);
    check.fine(x, "cheeseOf", x.cheeseOf(0), 5);
    x.hear(0, false);
    check.fine(x, "cheese, HEARD or not", x.cheese(0), 4);
    x.salt(0, 0, true);
    check.fine(x, "cheese, with SALT", x.cheeseOf(0), 7);
    x = on(hill + "4,0");
    check.fine(x, "cheeseOf", x.cheeseOf(0), 3);
    check.fine(x, "cheese", x.cheese(0), 2);
    x = on(hill + "1,0");
    check.fine(x, "cheese of none", x.cheese(0), 0);
    check.fine(x, "cheeseOf none", x.cheeseOf(0), -2);
    x = on(hill + "0,0");
    check.fine(x, "cheese of nothing", x.cheese(0), 2);
    check.fine(x, "cheeseOf nothing", x.cheeseOf(0), 0);
    check.refused(x, "cheese", x.cheese(1), 1);
    check.refused(x, "cheese", x.cheese(-1), 1);
    check.refused(x, "cheeseOf", x.cheeseOf(1), 1);
    check.refused(x, "cheeseOf", x.cheeseOf(-1), 1);
    x = on(ROW);
    check.refused(x, "no cheese", x.cheese(0), 6);
    check.refused(x, "no cheese", x.cheeseOf(0), 6);
    check.refused(x, "no cheese, no CASE", x.cheese(1), 1);
  }

  private static void order(GoatCourt x, int... courts) {
    for (int i = 0; i < courts.length; i++) {
      check.fine(x, "appealAt(" + i + ")", x.appealAt(i), courts[i]);
    }
    check.refused(x, "appealAt", x.appealAt(courts.length), 1);
    check.refused(x, "appealAt", x.appealAt(-1), 1);
  }

  // Promises 41 and 42
  private static void courts() {
    GoatCourt x = on(TWO);
    // c first: 10 + 5/10 of 4 = 12; d first: 4 + 8/10 of 10 = 12: like ones, the first by numbers
    check.fine(x, "appeals", x.appeals(), 1200);
    order(x, 0, 1);
    x = on(PLAIN + "court c costs 10 wins 5;court d costs 4 wins 3");
    // 10 + 2 = 12, or 4 + 7 = 11
    check.fine(x, "appeals", x.appeals(), 1100);
    order(x, 1, 0);
    x = on(PLAIN + "court c costs 99 wins 1;court d costs 0 wins 1;court e costs 0 wins 9");
    check.fine(x, "appeals", x.appeals(), 99 * 10 * 9);
    order(x, 1, 2, 0);
    x = on(PLAIN + "court a costs 99 wins 1;court b costs 99 wins 1;court c costs 99 wins 1;court d costs 99 wins 1;"
        + "court e costs 99 wins 1;court f costs 99 wins 1");
    check.fine(x, "appeals", x.appeals(), 99L * (1000000 + 900000 + 810000 + 729000 + 656100 + 590490));
    order(x, 0, 1, 2, 3, 4, 5);
    x = on(PLAIN + "court a costs 6 wins 1;court b costs 5 wins 1;court c costs 4 wins 1;court d costs 3 wins 1;"
        + "court e costs 2 wins 1;court f costs 1 wins 1");
    order(x, 5, 4, 3, 2, 1, 0);
    x = on(PLAIN + "court a costs 7 wins 9");
    check.fine(x, "appeals, one court", x.appeals(), 70);
    order(x, 0);
    x = on(ROW);
    check.fine(x, "appeals, no court", x.appeals(), 0);
    order(x);
  }

  // Promises 43 to 46
  private static void acts() {
    for (int dogs = 0; dogs < 2; dogs++) {
      boolean is = dogs == 1;
      GoatCourt x = on(ROW);
      check.fine(x, "put", act(x, is, 3, 4, true), true);
      check.refused(x, "put again", act(x, is, 3, 4, true), 5);
      check.refused(x, "taken away where there is none", act(x, is, 3, 3, false), 5);
      check.refused(x, "no PLACE", act(x, is, 4, 0, true), 1);
      check.refused(x, "no PLACE", act(x, is, -1, 0, true), 1);
      check.refused(x, "no hour", act(x, is, 0, 5, true), 2);
      check.refused(x, "no hour", act(x, is, 0, -1, true), 2);
      check.refused(x, "1 ahead of 2", act(x, is, 4, 5, true), 1);
      check.fine(x, "put", act(x, is, 0, 0, true), true);
      check.fine(x, "put", act(x, is, 0, 1, true), true);
      check.fine(x, "put", act(x, is, 2, 1, true), true);
      check.refused(x, "no room", act(x, is, 1, 1, true), 3);
      check.refused(x, "5 ahead of 3", act(x, is, 2, 1, true), 5);
      check.fine(x, "the other has room", act(x, !is, 1, 1, true), true);
      check.fine(x, "taken away", act(x, is, 2, 1, false), true);
      check.fine(x, "room anew", act(x, is, 1, 1, true), true);
      check.due("ACTS, refused ones don't count", x.size(12), 7);
    }
    GoatCourt x = on(ROW);
    check.fine(x, "hedge", x.hedge(2, true), true);
    check.refused(x, "hedge", x.hedge(2, true), 5);
    check.fine(x, "hedge off", x.hedge(2, false), true);
    check.refused(x, "hedge off", x.hedge(2, false), 5);
    check.refused(x, "hedge", x.hedge(3, true), 1);
    check.refused(x, "hedge", x.hedge(-1, true), 1);
    check.refused(x, "hedge", x.hedge(3, false), 1);
    x = on(TWO);
    check.refused(x, "hear, at first all are", x.hear(3, true), 5);
    check.fine(x, "hear no more", x.hear(3, false), true);
    check.refused(x, "hear no more", x.hear(3, false), 5);
    check.fine(x, "hear", x.hear(3, true), true);
    check.refused(x, "hear", x.hear(4, false), 1);
    check.refused(x, "hear", x.hear(-1, true), 1);
  }

  private static boolean act(GoatCourt x, boolean dogs, int place, int hour, boolean is) {
    return dogs ? x.dog(place, hour, is) : x.salt(place, hour, is);
  }

  // Promise 47
  private static void undoing() {
    GoatCourt x = on(TWO);
    check.refused(x, "undo nothing", x.undo(), 6);
    x.salt(2, 3, true);
    x.dog(1, 2, true);
    x.hedge(1, true);
    x.hear(0, false);
    x.salt(2, 3, false);
    check.fine(x, "undo", x.undo(), true);
    check.due("SALT is back", Check.put(x, 0, false), 203);
    check.fine(x, "undo", x.undo(), true);
    check.due("HEARD again", x.goat(0, 6), 1);
    check.fine(x, "undo", x.undo(), true);
    check.fine(x, "no HEDGE", x.hedge(1, true), true);
    check.fine(x, "undo", x.undo(), true);
    check.fine(x, "undo", x.undo(), true);
    check.due("no DOG", Check.put(x, 0, true), Check.THROWS);
    check.due("one is left", x.size(12), 1);
    check.fine(x, "undo", x.undo(), true);
    check.due("no SALT", Check.put(x, 0, false), Check.THROWS);
    check.refused(x, "undo nothing more", x.undo(), 6);
    for (int i = 0; i < 17; i++) {
      check.fine(x, "act " + i, x.salt(0, 0, i % 2 == 0), true);
    }
    check.due("16 are kept", x.size(12), 16);
    for (int i = 0; i < 16; i++) {
      check.fine(x, "undo " + i, x.undo(), true);
    }
    check.refused(x, "the 17th", x.undo(), 6);
    check.due("the first one stays done", Check.put(x, 0, false), 0);
    // seventeen unlike ones: those undone are the latest
    x = on(TWO);
    x.hear(0, false);
    x.hear(1, false);
    for (int i = 0; i < 4; i++) {
      x.salt(0, i, true);
      x.dog(2, i, true);
    }
    x.hedge(0, true);
    x.hedge(1, true);
    x.hear(2, false);
    x.hear(3, false);
    x.salt(0, 1, false);
    x.salt(1, 1, true);
    x.dog(2, 0, false);
    check.due("16 of 17", x.size(12), 16);
    check.due("the fourth SALT", Check.put(x, 3, false), 101);
    check.due("the first DOG", Check.put(x, 0, true), 201);
    x.undo();
    check.due("the first DOG, one undone", Check.put(x, 0, true), 200);
    x.undo();
    check.due("the fourth SALT, two undone", Check.put(x, 3, false), Check.THROWS);
    x.undo();
    check.due("the fourth SALT, three undone", Check.put(x, 3, false), 3);
    for (int i = 3; i < 16; i++) {
      check.fine(x, "undo " + i, x.undo(), true);
    }
    check.refused(x, "the 17th", x.undo(), 6);
    check.due("the first one stays done", x.goat(0, 6), 0);
    check.due("the second doesn't", x.goat(1, 6), 1);
    check.due("no SALT", Check.put(x, 0, false), Check.THROWS);
    check.due("no DOG", Check.put(x, 0, true), Check.THROWS);
    check.refused(x, "no HEDGE", x.hedge(1, false), 5);
  }

  // Promises 48 and 49
  private static void marking() {
    GoatCourt x = on(TWO);
    check.refused(x, "back", x.back(0), 1);
    x.salt(0, 0, true);
    x.hear(1, false);
    check.fine(x, "mark", x.mark(), 0);
    check.due("a MARK leaves what can be undone", x.size(12), 2);
    check.fine(x, "undo", x.undo(), true);
    x.dog(1, 1, true);
    x.hedge(0, true);
    check.fine(x, "mark", x.mark(), 1);
    check.fine(x, "mark", x.mark(), 2);
    check.refused(x, "a fourth MARK", x.mark(), 3);
    check.due("three MARKS", x.size(13), 3);
    check.fine(x, "back", x.back(0), true);
    check.due("SALT by the MARK", Check.put(x, 0, false), 0);
    check.due("no DOG by the MARK", Check.put(x, 0, true), Check.THROWS);
    check.due("not HEARD by the MARK", x.goat(1, 6), 0);
    check.due("no HEDGE by the MARK", x.hedge(0, false), false);
    check.refused(x, "nothing can be undone", x.undo(), 6);
    check.due("all MARKS stay", x.size(13), 3);
    check.fine(x, "back", x.back(1), true);
    check.due("SALT by the MARK", Check.put(x, 0, false), 0);
    check.due("a DOG by the MARK", Check.put(x, 0, true), 101);
    check.due("HEARD by the MARK", x.goat(1, 6), 1);
    check.due("a HEDGE by the MARK", x.hedge(0, true), false);
    check.due("days by the MARK", x.at(0, 0, 0), 0);
    x.hedge(0, false);
    check.due("one ACT behind it", x.size(12), 1);
    check.fine(x, "undo", x.undo(), true);
    check.fine(x, "back to the same", x.back(1), true);
    check.refused(x, "back", x.back(3), 1);
    check.refused(x, "back", x.back(-1), 1);
  }

  // Promise 50
  private static void putting() {
    GoatCourt x = on(ROW);
    x.salt(3, 0, true);
    x.salt(1, 4, true);
    x.salt(1, 2, true);
    x.salt(0, 3, true);
    x.dog(2, 2, true);
    int[] due = {3, 102, 104, 300};
    for (int i = 0; i < 4; i++) {
      check.due("put(" + i + ", false)", Check.put(x, i, false), due[i]);
    }
    check.due("put(4, false)", Check.put(x, 4, false), Check.THROWS);
    check.due("put(-1, false)", Check.put(x, -1, false), Check.THROWS);
    check.due("put(0, true)", Check.put(x, 0, true), 202);
    check.due("put(1, true)", Check.put(x, 1, true), Check.THROWS);
    x.hear(9, true);
    Check.put(x, 0, true);
    Check.put(x, 9, true);
    check.due("put leaves trouble()", x.trouble(), 1);
  }

  // Promise 51
  private static void sizes() {
    GoatCourt x = on(TWO);
    x.salt(0, 0, true);
    x.salt(0, 1, true);
    x.mark();
    x.feed(0, 0, 0, 0, 0);
    int[] due = {4, 2, 3, 2, 2, 4, 3, 3, 2, 3, 2, 2, 2, 1, 20};
    for (int what = 0; what < due.length; what++) {
      check.due("size(" + what + ")", x.size(what), due[what]);
    }
    x.near(-1);
    check.due("size(15)", x.size(15), -1);
    check.due("size(-1)", x.size(-1), -1);
    check.due("size leaves trouble()", x.trouble(), 1);
    x = on(ROW);
    for (int what = 4; what <= 14; what++) {
      check.due("size(" + what + ") of what there isn't", x.size(what), what == 11 ? 1 : 0);
    }
  }

  // Promise 52
  private static void troubles() {
    GoatCourt x = on(TWO);
    check.due("0", x.trouble(), 0);
    x.plants(9, 9);
    check.due("1", x.trouble(), 1);
    check.due("1, asked again", x.trouble(), 1);
    x.fault();
    x.where();
    x.size(-1);
    x.feed(1, 1, 1, 1, 1);
    check.due("calls that can't be refused leave it", x.trouble(), 1);
    x.at(0, 0, 9);
    check.due("2", x.trouble(), 2);
    x.mark();
    check.due("0 behind one that wasn't", x.trouble(), 0);
    x.mark();
    x.mark();
    x.mark();
    check.due("3", x.trouble(), 3);
    x.hill(1);
    check.due("4", x.trouble(), 4);
    x.hear(0, true);
    check.due("5", x.trouble(), 5);
    x.undo();
    check.due("6", x.trouble(), 6);
    check.due("appeals", x.appeals(), 1200);
    check.due("0 behind appeals()", x.trouble(), 0);
  }
}
