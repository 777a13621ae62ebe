/** Terms III, what fits and who leads: promises 21 to 34 where there is none, one, all, and at the first and the last. */
public final class FitEdgesTest {
  private static final Check check = new Check();

  /** Six goats a way off a hub h: each flees x, and x alone, when he comes; y is never feared. */
  private static final String STAR = "hill hours 2 plants 1;place a 0;place b 0;place c 0;place d 0;place e 0;place f 0;place h 0;"
      + "path a h;path b h;path c h;path d h;path e h;path f h;person x;person y;person z;"
      + "goat ga plain likes a at a trust 9;goat gb plain likes a at b trust 8;goat gc plain likes a at c trust 7;"
      + "goat gd plain likes a at d trust 6;goat ge plain likes a at e trust 5;goat gf plain likes a at f trust 1;"
      + "fears ga x;fears gb x;fears gc x;fears gd x;fears ge x;fears gf x;";

  public static void main(String[] args) {
    fitsNoneOrAll();
    fitNumbers();
    coulds();
    surelys();
    lies();
    falseNone();
    falseFewest();
    falseLeastBits();
    falseHeard();
    odds();
    oddsOfSome();
    likeliest();
    provedByNone();
    provedByFewest();
    provedByAll();
    provedNever();
    provedHeardOrNot();
    askRefused();
    askFirst();
    askLast();
    askMost();
    askOfAll();
    ledNone();
    ledOne();
    ledTwo();
    ledNever();
    ledFirst();
    ledMore();
    ledPairs();
    ledNeverTakesAway();
    ledByWhatIsLeft();
    ledLeaves();
    scared();
    scaredNever();
    scaredOnce();
    check.end();
  }

  private static GoatCourt on(String text) {
    GoatCourt x = new GoatCourt();
    int cases = Check.hill(x, text);
    check.due("hill of '" + text + "' taken (fault " + x.fault() + " at " + x.where() + ")", cases > 0, true);
    return x;
  }

  private static void fitting(String what, GoatCourt x, int... due) {
    check.fine(x, what + ": fits()", x.fits(), due.length);
    for (int i = 0; i < due.length; i++) {
      check.fine(x, what + ": fit(" + i + ")", x.fit(i), due[i]);
    }
    check.refused(x, what + ": fit(" + due.length + ")", x.fit(due.length), 1);
    check.refused(x, what + ": fit(-1)", x.fit(-1), 1);
  }

  private static void fitsNoneOrAll() {
    check.by("FITS: CASES in which all CLUES of goats HEARD are TRUE");
    fitting("the least HILL", on(Hills.LEAST), 0);
    fitting("no CLUES", on(STAR + "story x a;story x b;story x c"), 0, 1, 2);
    fitting("one TRUE in all", on(STAR + "story x a;story x b;seen gf f 1"), 0, 1);
    fitting("one TRUE in none", on(STAR + "story x a;story x b;seen gf a 1"));
    fitting("one TRUE in the first", on(STAR + "story x a;story x b;story x c;seen ga h 0"), 0);
    fitting("one TRUE in the last", on(STAR + "story x a;story x b;story x c;seen gc h 0"), 2);
    fitting("one FALSE in the midst", on(STAR + "story x a;story x b;story x c;seen gb b 0"), 0, 2);
    // all CLUES of a goat, the tenth too
    String nine = STAR + "story x a;story x b;" + "seen gf f 1;".repeat(9);
    fitting("nine TRUE in all", on(nine + "seen gf f 0"), 0, 1);
    fitting("the tenth is not", on(nine + "seen gf e 0"));
    GoatCourt x = on(nine + "shied ga a 0");
    fitting("the tenth is another's", x, 0);
    x.hear(0, false);
    fitting("who isn't HEARD", x, 0, 1);
    x.hear(5, false);
    fitting("none of both is HEARD", x, 0, 1);
    x.hear(0, true);
    fitting("HEARD again", x, 0);
  }

  private static void fitNumbers() {
    check.by("Promise 22: The i-th CASE that FITS. NONE: 1");
    String all = STAR + "person w;" + "story x a;".repeat(3) + "story y a;".repeat(3) + "story z a;".repeat(3) + "story w a;story w a;story w a";
    GoatCourt x = on(all);
    check.due("all 81", x.fits(), 81);
    for (int i = 0; i < 81; i++) {
      check.fine(x, "fit(" + i + ")", x.fit(i), i);
    }
    for (int i : new int[] {81, 82, -1, Integer.MAX_VALUE, Integer.MIN_VALUE}) {
      check.refused(x, "fit(" + i + ")", x.fit(i), 1);
    }
  }

  private static void coulds() {
    check.by("COULD: PLACES in which a person is in an hour in some of these");
    GoatCourt x = on(STAR + "story x a,h;story x h,a;story x b,b;story y h;seen gb b 0");
    // the third is a lie: gb would have fled
    fitting("but the third", x, 0, 1);
    check.fine(x, "could(0, 0)", x.could(0, 0), 1 | 1 << 6);
    check.fine(x, "could(0, 1)", x.could(0, 1), 1 | 1 << 6);
    check.fine(x, "could(1, 0)", x.could(1, 0), 1 << 6);
    check.fine(x, "could(2, 0), nowhere", x.could(2, 0), 0);
    x = on(STAR + "story x a;story x b;seen gf a 0");
    check.fine(x, "could, where none fits", x.could(0, 0), 0);
    x = on(STAR + "place i 0;story x i;story x a;story y i,a");
    check.fine(x, "the first and the last PLACE", x.could(0, 0), 129);
    check.fine(x, "the last alone", x.could(1, 0), 128);
  }

  private static void surelys() {
    check.by("SURELY: in all; -2");
    GoatCourt x = on(STAR + "story x a,b;story x a,c;story y h;story y h,a");
    check.fine(x, "in all", x.surely(0, 0), 0);
    check.fine(x, "not in all", x.surely(0, 1), -2);
    check.fine(x, "in all", x.surely(1, 0), 6);
    check.fine(x, "not in all", x.surely(1, 1), -2);
    check.fine(x, "nowhere", x.surely(2, 0), -2);
    x = on(STAR + "story x a,b;story x a,c;seen gb b 1");
    check.fine(x, "in all that fit", x.surely(0, 1), 2);
    x = on(STAR + "story x a;seen ga a 0");
    check.fine(x, "none fits", x.surely(0, 0), -2);
    x.hear(0, false);
    check.fine(x, "it isn't HEARD", x.surely(0, 0), 0);
    x = on(STAR + "place i 0;story x i");
    check.fine(x, "the last PLACE", x.surely(0, 1), 7);
  }

  private static void lies() {
    check.by("Promise 25: Stories of a person that no CASE that FITS has, as bits");
    GoatCourt x = on(STAR + "story x a;story x b;story x c;story y a;story y b;seen gc c 0");
    check.fine(x, "the last is a lie", x.lies(0), 4);
    check.fine(x, "y has none", x.lies(1), 0);
    check.fine(x, "who has no stories", x.lies(2), 0);
    x = on(STAR + "story x a;story x b;story x c;story y a;story y b;seen gc c 0;seen ga a 0");
    check.fine(x, "the first and the last", x.lies(0), 5);
    x = on(STAR + "story x a;story x b;story x c;story y a;story y b;seen gf a 0");
    check.fine(x, "none fits: all of them", x.lies(0), 7);
    check.fine(x, "none fits: all of them", x.lies(1), 3);
    check.fine(x, "none fits: who has no stories", x.lies(2), 0);
    check.due("no CLUES", on(STAR + "story x a").lies(0), 0);
  }

  private static void falseNone() {
    check.by("FALSE: the fewest goats without whose CLUES some CASE FITS: none");
    check.due("no goats", on(Hills.LEAST).falseOnes(), 0);
    GoatCourt x = on(STAR + "story x a;story x b;seen ga h 0;seen gc c 0");
    check.fine(x, "some CASE FITS", x.falseOnes(), 0);
    x = on(STAR + "story x a;story x b");
    check.fine(x, "no CLUES", x.falseOnes(), 0);
  }

  private static void falseFewest() {
    check.by("FALSE: the fewest goats; -2 if no CASE FITS even without all");
    String never = "";
    int bits = 0;
    for (int g = 0; g < 6; g++) {
      // each says that it was where it can't come to
      never += ";seen g" + (char) ('a' + g) + " " + (char) ('a' + (g + 1) % 6) + " 0";
      bits |= 1 << g;
      check.due("false up to " + g, on(STAR + "story x h" + never).falseOnes(), bits);
    }
    // one goat against two: the story by which fewer are false, though its bits are more
    GoatCourt x = on(STAR + "story x f;story x h;seen ga h 0;seen gb h 0;seen gf h 0");
    check.fine(x, "ga, gb against gf", x.falseOnes(), 3);
    x = on(STAR + "story x a;story x f;seen ga a 0;seen gb h 0;seen ge h 0;seen gf f 0");
    check.fine(x, "either way three", x.falseOnes(), 1 | 2 | 16);
    x = on(STAR + "story x h;story x f;seen ga h 0;seen gb b 0;seen gf f 0");
    check.fine(x, "ga alone", x.falseOnes(), 1);
    x = on(STAR + "story x f;story x b;seen ga a 0;seen gb b 0;seen gc c 0;seen gf h 0;seen gf h 1");
    check.fine(x, "none by the first", x.falseOnes(), 0);
    x = on(STAR + "story x b;story x a;seen ga a 0;shied gb b 0;seen gb b 1;seen gf f 0");
    check.fine(x, "gb alone by its second CLUE", x.falseOnes(), 2);
  }

  private static void falseLeastBits() {
    check.by("of like ones the least bits");
    // by the first story gf is false, by the second ga: one each
    GoatCourt x = on(STAR + "story x a;story x f;seen ga h 0;seen gf h 0");
    check.fine(x, "ga or gf", x.falseOnes(), 1);
    x = on(STAR + "story x f;story x a;seen ga h 0;seen gf h 0");
    check.fine(x, "gf or ga", x.falseOnes(), 1);
    x = on(STAR + "story x f;story x e;seen gf h 0;seen ge h 0");
    check.fine(x, "ge or gf", x.falseOnes(), 16);
  }

  private static void falseHeard() {
    check.by("FALSE: .. (of those HEARD)");
    GoatCourt x = on(STAR + "story x h;seen ga b 0;seen gb a 0;seen gf f 0");
    check.fine(x, "all HEARD", x.falseOnes(), 3);
    x.hear(0, false);
    check.fine(x, "ga not", x.falseOnes(), 2);
    x.hear(1, false);
    check.fine(x, "ga, gb not", x.falseOnes(), 0);
    x.hear(0, true);
    check.fine(x, "gb not", x.falseOnes(), 1);
  }

  private static void odds() {
    check.by("ODDS of a CASE: its trust, if all its CLUES are TRUE, else 10 less its trust, multiplied");
    for (int trust = 1; trust <= 9; trust++) {
      String hill = "hill hours 2 plants 1;place a 0;place b 0;goat g plain likes a at a trust " + trust;
      check.due("TRUE", on(hill + ";seen g a 1").odds(0), trust);
      check.due("false", on(hill + ";seen g b 1").odds(0), 10 - trust);
      check.due("no CLUE", on(hill).odds(0), 1);
      String both = hill + ";seen g a 1;seen g b 1;seen g a 0";
      check.due("one of three false", on(both).odds(0), 10 - trust);
    }
    StringBuilder most = new StringBuilder("hill hours 2 plants 1;place a 0;place b 0");
    StringBuilder least = new StringBuilder(most);
    int nines = 1;
    for (int g = 0; g < 6; g++) {
      String name = " g" + (char) ('a' + g);
      nines *= 9;
      most.append(";goat").append(name).append(" plain likes a at a trust 9;seen").append(name).append(" a 0");
      least.append(";goat").append(name).append(" plain likes a at a trust 9;seen").append(name).append(" b 0");
      check.due("all TRUE, trust 9", on(most.toString()).odds(0), nines);
      check.due("all false, trust 9", on(least.toString()).odds(0), 1);
    }
  }

  private static void oddsOfSome() {
    check.by("for each goat HEARD that has a CLUE");
    GoatCourt x = on(STAR + "story x a;story x b;seen ga a 0;seen gb b 0;seen gc c 0");
    check.fine(x, "odds(0)", x.odds(0), 1 * 8 * 7);
    check.fine(x, "odds(1)", x.odds(1), 9 * 2 * 7);
    x.hear(0, false);
    check.fine(x, "ga not HEARD", x.odds(0), 8 * 7);
    x.hear(2, false);
    check.fine(x, "nor gc", x.odds(1), 2);
    x.hear(1, false);
    check.fine(x, "nor gb", x.odds(1), 1);
    x.hear(4, false);
    check.fine(x, "who has no CLUE", x.odds(0), 1);
    x.undo();
    x.undo();
    check.fine(x, "gb again", x.odds(0), 8);
    check.fine(x, "without people", on(Hills.LEAST).odds(0), 1);
  }

  private static void likeliest() {
    check.by("LIKELIEST: the CASE of greatest ODDS, the first such");
    check.due("one CASE", on(Hills.LEAST).likeliest(), 0);
    GoatCourt x = on(STAR + "story x a;story x b;story x c;seen gc h 0");
    check.fine(x, "the last", x.likeliest(), 2);
    x = on(STAR + "story x a;story x b;story x c;seen gc c 0");
    check.fine(x, "the first two are like", x.likeliest(), 0);
    x = on(STAR + "story x a;story x b;story x c;seen ga a 0");
    check.fine(x, "the last two are like", x.likeliest(), 1);
    x = on(STAR + "story x a;story x b;story x c;seen ge h 0");
    check.fine(x, "all are like, trust 5", x.likeliest(), 0);
    // trust 1: what it says is likely false
    x = on(STAR + "story x a;story x f;seen gf f 0");
    check.fine(x, "trust 1", x.likeliest(), 1);
    x.hear(5, false);
    check.fine(x, "who isn't HEARD", x.likeliest(), 0);
    // the likeliest need not fit
    x = on(STAR + "story x a;story x f;seen gf f 0;seen ga h 1;seen gb h 0");
    check.fine(x, "none fits", x.fits(), 0);
    check.fine(x, "the likeliest", x.likeliest(), 0);
    String all = STAR + "person w;" + "story x a;".repeat(3) + "story y a;".repeat(3) + "story z a;".repeat(3)
        + "story w a;story w a;story w a,b;fears gb w;seen gb h 1";
    check.due("the last story of the last", on(all).likeliest(), 2);
    String last = all.replace("story x a;story x a;story x a;", "story x a;story x a;story x b;").replace("seen gb h 1", "seen gb h 0");
    check.due("of the last story of the first, the first", on(last).likeliest(), 54);
  }

  private static void provedByNone() {
    check.by("PROVED: a person is in a PLACE in an hour in all CASES ..: the fewest goats");
    GoatCourt x = on(STAR + "story x a,b;story x a,c;seen ga h 0;seen gb h 1");
    check.fine(x, "in all CASES without any", x.proved(0, 0, 0), 0);
    check.fine(x, "by gb", x.proved(0, 1, 1), 2);
    check.fine(x, "the other can't be", x.proved(0, 2, 1), -2);
    check.fine(x, "another PLACE can't be", x.proved(0, 3, 0), -2);
    check.fine(x, "who is nowhere", x.proved(2, 0, 0), -2);
    check.due("no goats", on(Hills.LEAST + ";person p;story p z").proved(0, 0, 1), 0);
    check.due("no goats, nowhere", on(Hills.LEAST + ";person p").proved(0, 0, 1), -2);
  }

  private static void provedByFewest() {
    check.by("the fewest goats, HEARD or not, of like ones the least bits");
    String three = STAR + "story x a;story x b;story x c;";
    GoatCourt x = on(three + "seen ga a 0;seen gb b 0;seen gc h 0");
    check.fine(x, "gc alone, not ga and gb", x.proved(0, 2, 0), 4);
    x = on(three + "seen ga a 0;seen gb b 0;seen gf f 0");
    check.fine(x, "ga and gb", x.proved(0, 2, 0), 3);
    x = on(three + "seen gb b 0;seen gc c 0;seen gf f 0");
    check.fine(x, "gb and gc", x.proved(0, 0, 0), 6);
    x = on(three + "seen ga h 0;shied gb h 0;seen gc c 0;seen gf f 0;shied ga a 1");
    check.fine(x, "ga alone", x.proved(0, 0, 0), 1);
    x = on(STAR + "story x h;story x f;seen ge e 0;seen gf h 0;shied gf f 0");
    check.fine(x, "the last alone", x.proved(0, 5, 0), 32);
    // two goats say the same: the least bits
    x = on("hill hours 2 plants 1;place a 0;place b 0;path a b;person x;story x a;story x b;goat f shy likes a at a trust 1;"
        + "goat g shy likes a at a trust 1;seen g b 0;seen f b 0");
    check.fine(x, "f, not g", x.proved(0, 0, 0), 1);
  }

  private static void provedByAll() {
    check.by("PROVED: .. by all six goats");
    // b and c are homes with what all like best; from there a goat flees p to the one of d, e, f that it likes next, and q from
    // there to a: each goat comes to a by one story of p and one of q alone
    StringBuilder text = new StringBuilder("hill hours 2 plants 4;place a 0,0,0,9;place b 0,0,0,9;place c 0,0,0,9;place d 9,0,0,0;"
        + "place e 0,9,0,0;place f 0,0,9,0;place z 0,0,0,0;path b d;path b e;path b f;path c d;path c e;path c f;path d a;path e a;"
        + "path f a;person p;person q;story p z;story p b,z;story p c,z;story q z,d;story q z,e;story q z,f");
    for (int g = 0; g < 6; g++) {
      text.append(";goat g").append((char) ('a' + g)).append(" shy likes d").append("abc".charAt(g % 3)).append(" at ");
      text.append("bc".charAt(g / 3)).append(" trust 1");
    }
    for (int without = 0; without < 7; without++) {
      StringBuilder clues = new StringBuilder(text);
      for (int g = 0; g < 6; g++) {
        clues.append(g == without ? "" : ";shied g" + (char) ('a' + g) + " a 1");
      }
      GoatCourt x = on(clues.toString());
      check.fine(x, "p was in z, all but " + without, x.proved(0, 6, 0), without == 6 ? 63 : -2);
      check.fine(x, "fits", x.fits(), without == 6 ? 3 : 4);
    }
  }

  private static void provedNever() {
    check.by("and there is such a CASE; -2 if it can't be");
    GoatCourt x = on(STAR + "story x a;story x b;seen ga b 0;seen gb a 0");
    check.fine(x, "there is no such CASE", x.proved(0, 0, 0), -2);
    check.fine(x, "nor for another PLACE", x.proved(0, 5, 1), -2);
    x = on(STAR + "story x a;story x b;seen ga h 0;seen gb h 0");
    check.fine(x, "by ga", x.proved(0, 0, 0), 1);
    check.fine(x, "by gb", x.proved(0, 1, 0), 2);
    check.fine(x, "by both together nothing", x.proved(0, 2, 0), -2);
    x = on(STAR + "story x a;story x b");
    check.fine(x, "no CLUES", x.proved(0, 0, 0), -2);
  }

  private static void provedHeardOrNot() {
    check.by("the fewest goats, HEARD or not");
    GoatCourt x = on(STAR + "story x a;story x b;seen ga h 0;seen gc c 0");
    for (int g = 0; g < 6; g++) {
      x.hear(g, false);
      check.fine(x, "not HEARD up to " + g, x.proved(0, 0, 1), 1);
    }
  }

  private static void askRefused() {
    check.by("ASK: .. 6 (fewer than two CASES FIT, or no goat)");
    GoatCourt x = on(STAR + "story x a;story x b;seen gf a 0");
    check.refused(x, "none fits", x.ask(), 6);
    check.refused(x, "none fits", x.askMost(), 6);
    x.hear(5, false);
    check.fine(x, "two fit", x.ask(), 0);
    check.fine(x, "two fit", x.askMost(), 1);
    x = on(STAR + "story x a;story x b;seen ga h 0");
    check.refused(x, "one fits", x.ask(), 6);
    check.refused(x, "one fits", x.askMost(), 6);
    x = on(STAR + "story x a");
    check.refused(x, "one CASE", x.ask(), 6);
    check.refused(x, "one CASE", x.askMost(), 6);
    x = on(Hills.LEAST + ";person p;story p z;story p z;story p z");
    check.refused(x, "no goat", x.ask(), 6);
    check.refused(x, "no goat", x.askMost(), 6);
    check.due("though three fit", x.fits(), 3);
    x = on(Hills.LEAST + ";person p;story p z;story p z;goat g plain likes a at z trust 1");
    check.fine(x, "one goat, two CASES", x.ask(), 0);
    check.fine(x, "one goat, two CASES", x.askMost(), 2);
  }

  private static void askFirst() {
    check.by("the first goat, hour");
    // by gb behind hour 0 and by gc behind hour 0, like ones: gb; and behind hour 1 too
    GoatCourt x = on(STAR + "story x b;story x c");
    check.fine(x, "the first goat", x.ask(), 100);
    check.fine(x, "how many", x.askMost(), 1);
    x = on(STAR + "story x h,b;story x h,c");
    check.fine(x, "the second hour", x.ask(), 101);
    x = on(STAR + "story x h,b;story x h,c;story y a;story y b");
    check.fine(x, "y tells nothing", x.ask(), 101);
    check.fine(x, "how many", x.askMost(), 2);
    // a later one that leaves fewer
    x = on(STAR + "story x a;story x b;story x c");
    check.fine(x, "two of three behind each", x.ask(), 0);
    check.fine(x, "two are left at most", x.askMost(), 2);
    // where nothing helps: the first
    x = on(STAR + "story y a;story y b");
    check.fine(x, "nothing helps", x.ask(), 0);
    check.fine(x, "all are left", x.askMost(), 2);
  }

  private static void askLast() {
    check.by("of all goats and hours: the last goat and hour");
    String calm = "";
    for (int g = 0; g < 5; g++) {
      calm += ";goat g" + (char) ('a' + g) + " billy likes a at a trust 1";
    }
    String hill = "hill hours 12 plants 1;place a 0;place b 0;path a b;person p" + calm + ";goat s shy likes a at a trust 1;story p b;story p "
        + "b,".repeat(11) + "a";
    GoatCourt x = on(hill);
    check.fine(x, "the last goat, the last hour", x.ask(), 511);
    check.fine(x, "one is left", x.askMost(), 1);
    x.hear(5, false);
    check.fine(x, "HEARD or not", x.ask(), 511);
    x = on(hill + ";story p b,a");
    // by hour 1 it knows the third: the two others are left; by hour 11 it is in b for the last two stories, unless he drives it on
    check.fine(x, "the first hour that parts them", x.ask(), 501);
    check.fine(x, "two are left", x.askMost(), 2);
  }

  private static void askMost() {
    check.by("by which .. fewest CASES that FIT were left at most");
    // s flees from the hub in hour 0, by y to b or to a, and in hour 1 to the hub again if x comes to where it is
    String hill = "hill hours 2 plants 1;place a 0;place b 0;place c 0;place h 0;path a h;path b h;path c h;person x;person y;"
        + "goat f billy likes a at a trust 1;goat s shy likes a at h trust 1;story x h,a;story x h,b;story x h,c;story y a;story y b";
    GoatCourt x = on(hill);
    check.fine(x, "two, two and two of six behind hour 1", x.askMost(), 2);
    check.fine(x, "by s behind hour 1", x.ask(), 101);
    x = on(hill + ";seen s h 1");
    // only CASES that FIT count: x in b and y in a, or the other way round, as hour 0 tells already
    fitting("s fled twice", x, 1, 2);
    check.fine(x, "one of two", x.askMost(), 1);
    check.fine(x, "by s behind hour 0", x.ask(), 100);
    x.hear(1, false);
    check.fine(x, "not HEARD: of six again", x.askMost(), 2);
    check.fine(x, "not HEARD: by s behind hour 1", x.ask(), 101);
  }

  private static void askOfAll() {
    check.by("of all goats and hours .. (all 81 CASES, six goats, 12 hours)");
    StringBuilder text = new StringBuilder("hill hours 12 plants 1;place a 0;place b 0;place c 0;path a b;person p;person q;person r;"
        + "person s");
    for (int p = 0; p < 4; p++) {
      text.append((";story " + "pqrs".charAt(p) + " c").repeat(3));
    }
    GoatCourt x = on(text.toString());
    check.refused(x, "no goat", x.ask(), 6);
    for (int g = 0; g < 6; g++) {
      text.append(";goat g").append((char) ('a' + g)).append(" plain likes a at a trust 1");
      x = on(text.toString());
      check.fine(x, "nothing helps", x.ask(), 0);
      check.fine(x, "all are left", x.askMost(), 81);
    }
    // behind another answer too: what was asked before doesn't matter
    x = on(text.toString().replace("goat gf plain", "goat gf shy").replaceFirst("story p c", "story p a"));
    check.fine(x, "the last goat tells", x.ask(), 500);
    check.fine(x, "54 are left", x.askMost(), 54);
    x.hedge(0, true);
    check.fine(x, "it can't flee: nothing helps", x.ask(), 0);
    check.fine(x, "all are left", x.askMost(), 81);
    // the second goat knows in hour 0: no hour of the first one is as good
    x = on("hill hours 12 plants 1;place a 0;place b 0;path a b;person p;story p a;story p b;goat f billy likes a at a trust 1;"
        + "goat g shy likes a at a trust 1");
    check.fine(x, "the second goat, the first hour", x.ask(), 100);
    check.fine(x, "one is left", x.askMost(), 1);
  }

  private static final String LINE = "hill hours 4 plants 1;place a 0;place b 0;place c 0;place d 0;path a b;path b c;path c d;"
      + "goat g plain likes a at a trust 5";

  private static void ledNone() {
    check.by("LED: the fewest SALTS more (0 .. 2): none");
    GoatCourt x = on(LINE);
    for (int hour = 0; hour < 4; hour++) {
      check.fine(x, "it is there", x.led(0, 0, 0, hour), 0);
      check.fine(x, "it is there", x.scared(0, 0, 0, hour), 0);
      check.refused(x, "ledAt(.., 0)", x.ledAt(0, 0, 0, hour, 0), 1);
    }
    x.salt(1, 2, true);
    int[] due = {1, 1, 0, 0};
    for (int hour = 0; hour < 4; hour++) {
      check.fine(x, "with the SALT that is put, hour " + hour, x.led(0, 0, 1, hour), due[hour]);
    }
  }

  private static void ledOne() {
    check.by("LED: .. behind an hour: one");
    GoatCourt x = on(LINE);
    for (int hour = 0; hour < 4; hour++) {
      check.fine(x, "hour " + hour, x.led(0, 0, 1, hour), 1);
      check.fine(x, "the first hour is the first such", x.ledAt(0, 0, 1, hour, 0), 100);
    }
    // it comes back to what it eats: the hour itself is the only one
    x = on("hill hours 12 plants 1;place a 9;place b 0;path a b;goat g plain likes a at a trust 5");
    for (int hour = 0; hour < 9; hour++) {
      check.fine(x, "hour " + hour, x.led(0, 0, 1, hour), 1);
      check.fine(x, "in that hour, not sooner", x.ledAt(0, 0, 1, hour, 0), 100 + hour);
    }
    x = on("hill hours 12 plants 1;place a 9;place b 0;place c 0;place d 0;place e 0;place f 0;place g 0;place h 0;path b h;"
        + "goat k billy likes a at a trust 1;goat l billy likes a at b trust 1");
    check.fine(x, "the last PLACE", x.led(0, 1, 7, 11), 1);
    check.fine(x, "the last PLACE", x.ledAt(0, 1, 7, 11, 0), 700);
    x = on("hill hours 12 plants 2;place a 9,9;place b 0,0;place c 0,0;place d 0,0;place e 0,0;place f 0,0;place g 0,0;place h 0,0;"
        + "path a h;goat k plain likes ab at a trust 1");
    check.fine(x, "the last PLACE, the last hour", x.led(0, 0, 7, 11), 1);
    check.fine(x, "the last PLACE, the last hour", x.ledAt(0, 0, 7, 11, 0), 711);
  }

  private static void ledTwo() {
    check.by("LED: .. two");
    GoatCourt x = on(LINE);
    check.fine(x, "one hour is too short", x.led(0, 0, 2, 0), -2);
    for (int hour = 1; hour < 4; hour++) {
      check.fine(x, "hour " + hour, x.led(0, 0, 2, hour), 2);
      check.fine(x, "its first", x.ledAt(0, 0, 2, hour, 0), 100);
      check.fine(x, "its second", x.ledAt(0, 0, 2, hour, 1), 201);
    }
    // two in one hour: the nearer PLACE would hold it, did it not fear; a kid and its mother
    x = on("hill hours 2 plants 1;place a 0;place b 0;place c 0;path a b;path a c;goat m plain likes a at a trust 1;"
        + "goat k plain likes a at b trust 1");
    check.fine(x, "by way of a", x.led(0, 1, 2, 1), 2);
    check.fine(x, "its first", x.ledAt(0, 1, 2, 1, 0), 0);
    check.fine(x, "its second", x.ledAt(0, 1, 2, 1, 1), 201);
  }

  private static void ledNever() {
    check.by("-2 if 2 aren't enough");
    GoatCourt x = on(LINE);
    for (int hour = 0; hour < 4; hour++) {
      check.fine(x, "three paths away", x.led(0, 0, 3, hour), -2);
      check.refused(x, "ledAt", x.ledAt(0, 0, 3, hour, 0), 1);
    }
    x.hedge(0, true);
    check.fine(x, "a HEDGE", x.led(0, 0, 1, 3), -2);
    x.hedge(0, false);
    check.fine(x, "no HEDGE", x.led(0, 0, 1, 3), 1);
    for (int hour = 0; hour < 4; hour++) {
      x.dog(1, hour, true);
    }
    check.fine(x, "DOGS", x.led(0, 0, 1, 3), -2);
    check.fine(x, "one PLACE", on(Hills.LEAST + ";goat g plain likes a at z trust 1").led(0, 0, 0, 1), 0);
  }

  private static void ledFirst() {
    check.by("of like ones the first by PLACES, hours (the first one's first)");
    // b and c are beside a; from either it goes on to d, which has what it likes
    GoatCourt x = on("hill hours 4 plants 1;place a 0;place b 0;place c 0;place d 9;path a c;path a b;path b d;path c d;"
        + "goat g plain likes a at a trust 5");
    check.fine(x, "by b or by c", x.led(0, 0, 3, 3), 1);
    check.fine(x, "the first PLACE", x.ledAt(0, 0, 3, 3, 0), 100);
    check.fine(x, "in hour 1 too", x.ledAt(0, 0, 3, 1, 0), 100);
    x.salt(0, 0, true);
    // SALT where it is keeps it in hour 0
    check.fine(x, "the first hour that helps", x.ledAt(0, 0, 3, 3, 0), 101);
    x.hedge(1, true);
    check.fine(x, "a HEDGE: the next PLACE", x.ledAt(0, 0, 3, 3, 0), 201);
    // PLACES ahead of hours: the first one is that of the later hour
    x = on("hill hours 4 plants 1;place d 0;place c 0;place b 0;place a 0;path a b;path b c;path c d;goat g plain likes a at a trust 5");
    check.fine(x, "against the numbers", x.led(0, 0, 1, 3), 2);
    check.fine(x, "its first by PLACES", x.ledAt(0, 0, 1, 3, 0), 101);
    check.fine(x, "its second", x.ledAt(0, 0, 1, 3, 1), 200);
    check.fine(x, "at the last moment", x.ledAt(0, 0, 1, 1, 0), 101);
  }

  private static void ledMore() {
    check.by("the fewest SALTS more");
    GoatCourt x = on(LINE);
    x.salt(1, 0, true);
    check.fine(x, "one is put", x.led(0, 0, 2, 3), 1);
    check.fine(x, "its first", x.ledAt(0, 0, 2, 3, 0), 201);
    check.fine(x, "two more", x.led(0, 0, 3, 3), 2);
    check.fine(x, "its second", x.ledAt(0, 0, 3, 3, 1), 302);
    x.salt(2, 1, true);
    check.fine(x, "two are put", x.led(0, 0, 3, 3), 1);
    check.fine(x, "SALT where it is at first keeps it there", x.ledAt(0, 0, 0, 3, 0), 0);
    x.salt(3, 2, true);
    check.fine(x, "three are put", x.led(0, 0, 3, 3), 0);
  }

  /** All PLACES and hours of some HILLS in which pairs of SALTS vie, as the plain model finds them by trying all. */
  private static void ledPairs() {
    check.by("of like ones the first by PLACES, hours (the first one's first), of two");
    String[] hills = {
        "hill hours 4 plants 1;place b 1;goat m plain likes a at b trust 7;goat k kid m likes a at b trust 8;place d 6;person p;"
            + "place g 0;path d b;story p g;story p b,d,g,g;path g b;place v 0;fears k p;goat o plain likes a at v trust 3;"
            + "story p b,v,g,d",
        "hill hours 5 plants 2;place a 0,2;place i 4,0;path i a;place v 5,2;path a v;path v i;place t 0,0;person g;"
            + "goat l billy likes ba at v trust 2;story g v,v,i,t,t;path i t;person n;goat s kid l likes b at t trust 7;story n a,i",
        "hill hours 5 plants 2;place q 1,2;goat b plain likes ab at q trust 3;place j 2,1;goat u shy likes ab at j trust 8;person w;"
            + "path j q;story w q,q,q;place f 8,0;path f j;goat g kid u likes b at q trust 7;place k 2,5;path k f;fears g w",
        "hill hours 4 plants 1;place c 2;place b 1;place f 2;path b c;place z 2;person l;story l c,b;path z f;path f c;story l f;"
            + "story l c,z,z,b;path f b;goat p shy likes a at z trust 3",
        "hill hours 5 plants 1;place a 0;place r 0;place m 0;place c 0;path a r;path r m;path m c;path r c;path a c;person d;"
            + "person t;story d r;story t c;goat b billy likes a at r trust 7;goat q shy likes a at r trust 8"};
    int[][] salts = {{2, 2}, {0, 0}, {2, 2}, {1, 3}, {1, 3}};
    int[][] asked = {{0, 1, 2, 3, 2, 201}, {0, 0, 3, 4, 1, 304}, {0, 2, 1, 4, 101, 103}, {0, 0, 0, 2, 1, 200}, {0, 0, 0, 3, 0, 3}};
    for (int i = 0; i < hills.length; i++) {
      GoatCourt x = on(hills[i]);
      Model model = new Model();
      Texts.feed(model, hills[i]);
      model.hill(hills[i].length());
      if (i != 1) {
        x.salt(salts[i][0], salts[i][1], true);
        model.salt(salts[i][0], salts[i][1], true);
      }
      for (int g = 0; g < x.size(5); g++) {
        for (int place = 0; place < x.size(2); place++) {
          for (int hour = 0; hour < x.size(0); hour++) {
            String shown = "hill " + i + ": (0, " + g + ", " + place + ", " + hour + ")";
            check.due("ledAt " + shown, x.ledAt(0, g, place, hour, 0), model.ledAt(0, g, place, hour, 0));
            check.due("ledAt, the second, " + shown, x.ledAt(0, g, place, hour, 1), model.ledAt(0, g, place, hour, 1));
            check.due("scared " + shown, x.scared(0, g, place, hour), model.scared(0, g, place, hour));
          }
        }
      }
      int[] a = asked[i];
      check.fine(x, "hill " + i + ": two", x.led(a[0], a[1], a[2], a[3]), 2);
      check.fine(x, "hill " + i + ": its first", x.ledAt(a[0], a[1], a[2], a[3], 0), a[4]);
      check.fine(x, "hill " + i + ": its second", x.ledAt(a[0], a[1], a[2], a[3], 1), a[5]);
    }
  }

  private static void ledNeverTakesAway() {
    check.by("SALTS more (none is taken away)");
    // SALT in b leads it away from what it likes in c; no other SALT would lead it to c
    String fork = "hill hours 3 plants 1;place a 0;place b 0;place c 9;path a b;path a c;goat g plain likes a at a trust 5";
    GoatCourt x = on(fork);
    check.fine(x, "no SALT", x.led(0, 0, 2, 0), 0);
    x.salt(1, 0, true);
    check.fine(x, "SALT in b", x.led(0, 0, 2, 0), -2);
    check.refused(x, "SALT in b", x.ledAt(0, 0, 2, 0, 0), 1);
    // SALT in a keeps it there, one behind the other
    x = on(LINE);
    for (int hour = 0; hour < 4; hour++) {
      x.salt(0, hour, true);
      for (int behind = 0; behind < 4; behind++) {
        check.fine(x, "SALT up to hour " + hour, x.led(0, 0, 1, behind), behind <= hour ? -2 : 1);
      }
    }
    // at the end of the numbers: SALT in g leads it away from h
    x = on("hill hours 12 plants 1;place a 0;place b 0;place c 0;place d 0;place e 0;place f 0;place g 0;place h 9;path f g;path f h;"
        + "goat k plain likes a at f trust 5");
    for (int hour = 0; hour < 12; hour++) {
      check.fine(x, "no SALT", x.led(0, 0, 7, hour), 0);
    }
    x.dog(7, 0, true);
    x.salt(6, 1, true);
    check.fine(x, "a DOG, then SALT", x.led(0, 0, 7, 1), -2);
    check.fine(x, "a DOG, then SALT", x.at(0, 0, 1), 6);
    // likewise DOGS: one in b keeps it in a, one in a would scare it to b
    x = on(fork);
    x.dog(2, 0, true);
    check.fine(x, "a DOG in c", x.scared(0, 0, 2, 0), -2);
    x.dog(2, 1, true);
    check.fine(x, "DOGS in c", x.scared(0, 0, 2, 1), -2);
    check.fine(x, "DOGS in c, not in the last hour", x.scared(0, 0, 2, 2), 0);
  }

  private static void ledByWhatIsLeft() {
    check.by("of like ones the first by PLACES, hours (one that only changes what is left)");
    // SALT in a in hour 0 keeps it from eating, so that there is something to eat in hour 1; SALT in hour 1 would do as well
    for (int first = 0; first < 8; first++) {
      StringBuilder text = new StringBuilder("hill hours 3 plants 1");
      for (int place = 0; place < 8; place++) {
        text.append(";place ").append((char) ('a' + place)).append(place == first ? " 1" : place == 7 - first ? " 9" : " 0");
      }
      text.append(";path ").append((char) ('a' + first)).append(' ').append((char) ('a' + 7 - first));
      text.append(";goat k plain likes a at ").append((char) ('a' + first)).append(" trust 1");
      GoatCourt x = on(text.toString());
      check.fine(x, "it goes in hour 1", x.at(0, 0, 1), 7 - first);
      check.fine(x, "one SALT", x.led(0, 0, first, 1), 1);
      check.fine(x, "in hour 0", x.ledAt(0, 0, first, 1, 0), first * 100);
      check.fine(x, "two hours later: the last hour itself, or two", x.led(0, 0, first, 2), 1);
      x.salt(first, 0, true);
      check.fine(x, "with that one put", x.led(0, 0, first, 1), 0);
      check.fine(x, "an hour more", x.led(0, 0, first, 2), 1);
    }
  }

  private static void ledLeaves() {
    check.by("Promises 32 to 34 (nothing is put)");
    GoatCourt x = on(LINE);
    x.led(0, 0, 2, 3);
    x.ledAt(0, 0, 2, 3, 1);
    x.scared(0, 0, 1, 3);
    check.due("no ACTS", x.size(12), 0);
    check.due("no SALT", Check.put(x, 0, false), Check.THROWS);
    check.due("no DOG", Check.put(x, 0, true), Check.THROWS);
    check.due("the DAY is as it was", x.at(0, 0, 3), 0);
    check.due("nor has it eaten", x.ate(0, 0, 0), 0);
  }

  private static void scared() {
    check.by("SCARED: likewise by DOGS");
    GoatCourt x = on(LINE);
    for (int hour = 0; hour < 4; hour++) {
      check.fine(x, "one", x.scared(0, 0, 1, hour), 1);
    }
    // from b it would flee to a again, but for a third DOG
    check.fine(x, "by b to c", x.scared(0, 0, 2, 3), -2);
    x.dog(0, 1, true);
    check.fine(x, "a DOG is put", x.scared(0, 0, 2, 3), 2);
    x.dog(1, 1, true);
    check.fine(x, "two are put", x.scared(0, 0, 2, 1), 1);
    x.dog(0, 0, true);
    check.fine(x, "three are put", x.scared(0, 0, 2, 1), 0);
    // two in one hour
    x = on("hill hours 2 plants 1;place a 0;place b 0;place c 0;path a b;path a c;goat g plain likes a at a trust 5;"
        + "goat k kid g likes a at a trust 5");
    check.fine(x, "to the second", x.scared(0, 0, 2, 0), 2);
    check.fine(x, "the kid with its mother", x.scared(0, 1, 2, 0), 2);
    check.fine(x, "to the first", x.scared(0, 0, 1, 0), 1);
    // a person does as well as a DOG
    x = on("hill hours 2 plants 1;place a 0;place b 0;place c 0;path a b;path a c;person p;story p a;story p c;goat g shy likes a at a trust 5");
    check.fine(x, "he is there", x.scared(0, 0, 1, 0), 0);
    check.fine(x, "he is there, to the second", x.scared(0, 0, 2, 0), 1);
    check.fine(x, "he is in the second", x.scared(1, 0, 2, 0), -2);
  }

  private static void scaredNever() {
    check.by("SCARED: .. -2");
    GoatCourt x = on(LINE + ";goat h billy likes a at a trust 1");
    for (int hour = 0; hour < 4; hour++) {
      check.fine(x, "a billy", x.scared(0, 1, 1, hour), -2);
      check.fine(x, "too far away", x.scared(0, 0, 3, hour), -2);
    }
    x.hedge(0, true);
    check.fine(x, "a HEDGE", x.scared(0, 0, 1, 3), -2);
  }

  private static void scaredOnce() {
    check.by("SCARED: .. behind an hour (it flees once in an hour)");
    GoatCourt x = on("hill hours 3 plants 1;place a 0;place b 0;place c 9;path a b;path b c;goat g plain likes a at a trust 5");
    check.fine(x, "to b in hour 0", x.scared(0, 0, 1, 0), 1);
    check.fine(x, "not to c in hour 0", x.scared(0, 0, 2, 0), -2);
    check.fine(x, "to c in hour 1", x.scared(0, 0, 2, 1), 1);
    check.fine(x, "LED, to b in hour 0", x.led(0, 0, 1, 0), 1);
    check.fine(x, "LED, not to c in hour 0", x.led(0, 0, 2, 0), -2);
    check.fine(x, "LED, to c in hour 1", x.ledAt(0, 0, 2, 1, 0), 100);
  }
}
