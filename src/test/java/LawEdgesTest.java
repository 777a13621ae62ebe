/** Terms III, the law, the cheese and the appeals: promises 35 to 42 where there is none, one, and as much as there may be. */
public final class LawEdgesTest {
  private static final Check check = new Check();
  private static final String FACTS = Hills.LEAST + ";fact a;fact b;fact c;fact d;fact e;fact f;fact g;fact h;";

  public static void main(String[] args) {
    follows();
    followsByRules();
    followsByChain();
    followsInCircles();
    stepRefused();
    steps();
    stepsAhead();
    needs();
    needsAny();
    enough();
    enoughLeastBits();
    cheeseRefused();
    cheeseOfNothing();
    cheeses();
    cheeseOfFour();
    cheeseByCases();
    appealsOfNone();
    appeals();
    bestOrder();
    orderOfSix();
    check.end();
  }

  private static GoatCourt on(String text) {
    GoatCourt x = new GoatCourt();
    int cases = Check.hill(x, text);
    check.due("hill of '" + text + "' taken (fault " + x.fault() + " at " + x.where() + ")", cases > 0, true);
    return x;
  }

  private static void follows() {
    check.by("FOLLOWS: a FACT that holds: 1, 0");
    for (int held = 0; held < 8; held++) {
      GoatCourt x = on(FACTS + "holds " + (char) ('a' + held));
      for (int fact = 0; fact < 8; fact++) {
        boolean is = fact == held;
        check.fine(x, "follows(" + fact + ")", x.follows(fact), is ? 1 : 0);
        check.fine(x, "needs(" + fact + ")", x.needs(fact), is ? 0 : -2);
        check.fine(x, "enough(" + fact + ")", x.enough(fact), is ? 1 << held : -2);
      }
    }
    GoatCourt x = on(Hills.LEAST);
    check.refused(x, "no FACT: follows(0)", x.follows(0), 1);
    check.refused(x, "no FACT: needs(0)", x.needs(0), 1);
    check.refused(x, "no FACT: enough(0)", x.enough(0), 1);
    x = on(Hills.LEAST + ";fact a");
    check.fine(x, "nothing holds: follows(0)", x.follows(0), 0);
    check.refused(x, "one FACT: follows(1)", x.follows(1), 1);
  }

  private static void followsByRules() {
    check.by("FOLLOWS: .. or of a rule all FACTS of which (behind if) FOLLOW");
    // h if a, b, c: all of them, and any two of them
    for (int held = 0; held < 8; held++) {
      String text = FACTS + "rule h if a,b,c";
      for (int fact = 0; fact < 3; fact++) {
        text += (held >> fact & 1) == 1 ? ";holds " + (char) ('a' + fact) : "";
      }
      GoatCourt x = on(text);
      boolean all = held == 7;
      check.fine(x, "holding " + held + ": follows(7)", x.follows(7), all ? 1 : 0);
      check.fine(x, "holding " + held + ": needs(7)", x.needs(7), all ? 1 : -2);
      check.fine(x, "holding " + held + ": enough(7)", x.enough(7), all ? 7 : -2);
    }
    GoatCourt x = on(FACTS + "rule h if a;holds h");
    check.fine(x, "not the other way round", x.follows(0), 0);
    check.fine(x, "a head that holds needs no rule", x.needs(7), 0);
  }

  private static void followsByChain() {
    check.by("FOLLOWS: .. FOLLOW (by as many rules as there may be)");
    // in either order of the rules
    String up = FACTS + "holds a;rule b if a;rule c if b;rule d if c;rule e if d;rule f if e;rule g if f;rule h if g,a,d;rule a if h";
    String down = FACTS + "holds a;rule a if h;rule h if g,a,d;rule g if f;rule f if e;rule e if d;rule d if c;rule c if b;rule b if a";
    GoatCourt x = on(up);
    GoatCourt y = on(down);
    for (int fact = 0; fact < 8; fact++) {
      check.fine(x, "up: follows(" + fact + ")", x.follows(fact), 1);
      check.fine(y, "down: follows(" + fact + ")", y.follows(fact), 1);
      check.fine(x, "up: needs(" + fact + ")", x.needs(fact), (1 << fact) - 1);
      // rule 1 tells h, 2 tells g, .. 7 tells b
      check.fine(y, "down: needs(" + fact + ")", y.needs(fact), 256 - (256 >> fact));
      check.fine(x, "up: enough(" + fact + ")", x.enough(fact), 1);
      check.fine(y, "down: enough(" + fact + ")", y.enough(fact), 1);
    }
  }

  private static void followsInCircles() {
    check.by("FOLLOWS: .. (not by itself)");
    GoatCourt x = on(FACTS + "rule a if a;rule b if c;rule c if b;rule d if d,e;holds e");
    int[] due = {0, 0, 0, 0, 1, 0, 0, 0};
    for (int fact = 0; fact < 8; fact++) {
      check.fine(x, "follows(" + fact + ")", x.follows(fact), due[fact]);
      check.fine(x, "needs(" + fact + ")", x.needs(fact), due[fact] == 1 ? 0 : -2);
      check.fine(x, "enough(" + fact + ")", x.enough(fact), due[fact] == 1 ? 16 : -2);
    }
  }

  private static void stepRefused() {
    check.by("Promise 36: .. NONE: 1 (no HILL); 6 (no proof)");
    GoatCourt x = new GoatCourt();
    check.refused(x, "no HILL", x.step(), 1);
    Check.hill(x, FACTS + "holds a");
    check.refused(x, "no proof", x.step(), 6);
    check.due("no steps", x.size(9), 0);
    Check.hill(x, FACTS + "proof a");
    check.fine(x, "a proof of one step", x.step(), 0);
    check.due("one step", x.size(9), 1);
    Check.hill(x, FACTS + "holds a;proof a");
    check.fine(x, "a right one", x.step(), -2);
    Check.hill(x, FACTS + "holds a");
    check.refused(x, "no proof any more", x.step(), 6);
  }

  private static void steps() {
    check.by("The first step of the proof that isn't right; -2 all are");
    for (int steps = 1; steps <= 8; steps++) {
      for (int wrong = 0; wrong <= steps; wrong++) {
        StringBuilder text = new StringBuilder(FACTS + "holds a;proof ");
        for (int i = 0; i < steps; i++) {
          // from the wrong one on none holds
          text.append(i == 0 ? "" : ",").append(i < wrong ? 'a' : 'b');
        }
        GoatCourt x = on(text.toString());
        check.fine(x, steps + " steps, wrong from " + wrong, x.step(), wrong == steps ? -2 : wrong);
      }
    }
    // behind the first wrong one a right one
    GoatCourt x = on(FACTS + "holds a;proof a,b,a,a,a,a,a,c");
    check.fine(x, "the first", x.step(), 1);
    x = on(FACTS + "holds a;proof b,a,a,a,a,a,a,a");
    check.fine(x, "the first of all", x.step(), 0);
  }

  private static void stepsAhead() {
    check.by("A step of the proof is right if it holds, or is told by a rule all FACTS of which are steps ahead of it");
    String law = FACTS + "holds a;holds b;rule c if a,b;rule d if c;rule c if e;rule f if a,b,c;proof ";
    String[] proofs = {"a,b,c,d", "b,a,c,d", "a,c", "b,c", "c", "a,b,d", "a,b,d,c", "a,b,c,c,d,d,a,b", "a,b,c,f", "a,c,b", "d", "a,b,c,e",
        "a,b,c,d,f,h", "a,b,f"};
    int[] due = {-2, -2, 1, 1, 0, 2, 2, -2, -2, 1, 0, 3, 5, 2};
    for (int i = 0; i < proofs.length; i++) {
      GoatCourt x = on(law + proofs[i]);
      check.fine(x, "proof " + proofs[i], x.step(), due[i]);
    }
    GoatCourt x = on(FACTS + "rule a if a;proof a,a");
    check.fine(x, "a step isn't ahead of itself", x.step(), 0);
    x = on(FACTS + "rule a if b;rule b if a;proof a,b,a");
    check.fine(x, "nor in a circle", x.step(), 0);
    // a rule whose FACTS hold, but are no steps
    x = on(FACTS + "holds b;rule a if b;proof a");
    check.fine(x, "what holds is no step", x.step(), 0);
    check.fine(x, "though it FOLLOWS", x.follows(0), 1);
    x = on(FACTS + "holds b;rule a if b;rule h if a;proof b,a,h");
    check.fine(x, "all are right", x.step(), -2);
  }

  private static void needs() {
    check.by("NEEDS: rules without any one of which it doesn't FOLLOW any more");
    GoatCourt x = on(FACTS + "holds a;rule b if a;rule b if a;rule c if b;rule d if c;rule d if b");
    check.fine(x, "b by either of two", x.needs(1), 0);
    check.fine(x, "c by the third", x.needs(2), 4);
    check.fine(x, "d by c or by b", x.needs(3), 0);
    check.fine(x, "what holds", x.needs(0), 0);
    check.fine(x, "what doesn't FOLLOW", x.needs(4), -2);
    // the eighth rule
    x = on(FACTS + "holds a;" + "rule a if b;".repeat(7) + "rule h if a");
    check.fine(x, "the last rule", x.needs(7), 128);
    check.fine(x, "the others aren't needed", x.needs(0), 0);
  }

  private static void needsAny() {
    check.by("without any one of which");
    GoatCourt x = on(FACTS + "holds a;rule b if a;rule c if a;rule d if b,c;rule e if d;rule e if b;rule f if e,d");
    check.fine(x, "e: by b alone", x.needs(4), 1);
    check.fine(x, "d: by both", x.needs(3), 7);
    check.fine(x, "f: by all but those that tell e", x.needs(5), 1 | 2 | 4 | 32);
  }

  private static void enough() {
    check.by("ENOUGH: the fewest FACTS that hold from which, with all rules, it FOLLOWS");
    GoatCourt x = on(FACTS + "holds a;holds b;holds c;holds d;holds e;rule g if a,b,c;rule h if g,d,e;rule f if g");
    check.fine(x, "five", x.enough(7), 31);
    check.fine(x, "three", x.enough(6), 7);
    check.fine(x, "three, by two rules", x.enough(5), 7);
    for (int fact = 0; fact < 5; fact++) {
      check.fine(x, "itself", x.enough(fact), 1 << fact);
    }
    // of a FACT that holds another one is enough, if its bits are less
    x = on(FACTS + "holds a;holds b;holds h;rule b if a;rule h if b");
    check.fine(x, "a is enough for b", x.enough(1), 1);
    check.fine(x, "a is enough for h", x.enough(7), 1);
    // only FACTS that hold count
    x = on(FACTS + "holds b;holds h;rule c if a;rule c if b,h");
    check.fine(x, "a doesn't hold", x.enough(2), 130);
    x = on(FACTS + "rule c if a");
    check.fine(x, "nothing holds", x.enough(2), -2);
    check.fine(x, "nothing holds", x.enough(0), -2);
    // fewer, though their bits are more
    x = on(FACTS + "holds a;holds b;holds h;rule c if a,b;rule c if h");
    check.fine(x, "h alone", x.enough(2), 128);
  }

  private static void enoughLeastBits() {
    check.by("of like ones the least bits");
    GoatCourt x = on(FACTS + "holds h;holds g;holds b;rule a if h;rule a if g;rule a if b");
    check.fine(x, "b, g or h", x.enough(0), 2);
    x = on(FACTS + "holds a;holds b;holds c;holds d;rule h if c,d;rule h if b,d;rule h if a,d");
    check.fine(x, "two of them", x.enough(7), 9);
  }

  private static final String MILK = "hill hours 2 plants 2;place a 9,9;place b 0,0;path a b;person p;story p b;story p a;"
      + "goat f plain likes a at a trust 1;goat g plain likes b at a trust 1;goat h billy likes a at a trust 1;"
      + "goat i shy likes b at a trust 1;goat j plain likes a at b trust 1;goat k kid f likes b at a trust 1;cheese ";

  private static void cheeseRefused() {
    check.by("Promises 39, 40: NONE: 1; 6 (no cheese)");
    GoatCourt x = new GoatCourt();
    check.refused(x, "no HILL", x.cheese(0), 1);
    check.refused(x, "no HILL", x.cheeseOf(0), 1);
    Check.hill(x, Hills.LEAST);
    check.refused(x, "no cheese", x.cheese(0), 6);
    check.refused(x, "no cheese", x.cheeseOf(0), 6);
    for (int c : new int[] {1, -1, 81, Integer.MAX_VALUE, Integer.MIN_VALUE}) {
      check.refused(x, "no cheese, no CASE", x.cheese(c), 1);
      check.refused(x, "no cheese, no CASE", x.cheeseOf(c), 1);
    }
    Check.hill(x, Hills.LEAST + ";cheese 0");
    check.fine(x, "a cheese", x.cheese(0), 1);
    Check.hill(x, Hills.LEAST);
    check.refused(x, "no cheese any more", x.cheese(0), 6);
  }

  private static void cheeseOfNothing() {
    check.by("CHEESE in a CASE: sets of goats that ate together just what is told: nothing");
    GoatCourt x = on(Hills.LEAST + ";cheese 0");
    check.fine(x, "no goats", x.cheese(0), 1);
    check.fine(x, "no goats", x.cheeseOf(0), 0);
    x = on(Hills.LEAST + ";cheese 1");
    check.fine(x, "no goats, but a cheese", x.cheese(0), 0);
    check.fine(x, "no goats, but a cheese", x.cheeseOf(0), -2);
    String text = Hills.LEAST;
    for (int goats = 1; goats <= 6; goats++) {
      text += ";goat g" + (char) ('a' + goats) + " plain likes a at z trust 1";
      x = on(text + ";cheese 0");
      check.fine(x, goats + " goats that ate nothing", x.cheese(0), 1 << goats);
      check.fine(x, goats + " goats that ate nothing", x.cheeseOf(0), 0);
      x = on(text + ";cheese 99");
      check.fine(x, goats + " goats that ate nothing, but a cheese", x.cheese(0), 0);
      check.fine(x, goats + " goats that ate nothing, but a cheese", x.cheeseOf(0), -2);
    }
  }

  private static void cheeses() {
    check.by("CHEESE: how many sets of goats; The least of these, as bits; -2");
    // in the first CASE f eats 2 a, g 2 b, h 4 a, i 2 b, j comes and eats 1 a, k 2 b
    int[][] ate = {{2, 0}, {0, 2}, {4, 0}, {0, 2}, {1, 0}, {0, 2}};
    GoatCourt eaters = on(MILK + "0,0");
    for (int g = 0; g < 6; g++) {
      check.due("ate(0, " + g + ", 0)", eaters.ate(0, g, 0), ate[g][0]);
      check.due("ate(0, " + g + ", 1)", eaters.ate(0, g, 1), ate[g][1]);
    }
    for (int a = 0; a <= 8; a++) {
      for (int b = 0; b <= 7; b++) {
        int count = 0;
        int least = -2;
        for (int set = 63; set >= 0; set--) {
          int sumA = 0;
          int sumB = 0;
          for (int g = 0; g < 6; g++) {
            sumA += (set >> g & 1) * ate[g][0];
            sumB += (set >> g & 1) * ate[g][1];
          }
          if (sumA == a && sumB == b) {
            count++;
            least = set;
          }
        }
        GoatCourt x = on(MILK + a + "," + b);
        check.fine(x, "cheese of " + a + "," + b, x.cheese(0), count);
        check.fine(x, "cheeseOf " + a + "," + b, x.cheeseOf(0), least);
      }
    }
    GoatCourt x = on(MILK + "7,6");
    check.fine(x, "all of them", x.cheeseOf(0), 63);
    x = on(MILK + "99,99");
    check.fine(x, "more than all", x.cheeseOf(0), -2);
  }

  private static void cheeseOfFour() {
    check.by("just what is told, plant by plant");
    String hill = "hill hours 2 plants 4;place a 9,9,9,9;goat f plain likes a at a trust 1;goat g plain likes b at a trust 1;"
        + "goat h plain likes c at a trust 1;goat i plain likes d at a trust 1;cheese ";
    for (int set = 0; set < 16; set++) {
      StringBuilder cheese = new StringBuilder();
      for (int plant = 0; plant < 4; plant++) {
        cheese.append(plant == 0 ? "" : ",").append((set >> plant & 1) == 1 ? 2 : 0);
      }
      GoatCourt x = on(hill + cheese);
      check.fine(x, "cheese of " + cheese, x.cheese(0), 1);
      check.fine(x, "cheeseOf " + cheese, x.cheeseOf(0), set);
    }
    for (String cheese : new String[] {"1,2,2,2", "2,1,2,2", "2,2,1,2", "2,2,2,1", "3,2,2,2", "2,2,2,3"}) {
      GoatCourt x = on(hill + cheese);
      check.fine(x, "cheese of " + cheese, x.cheese(0), 0);
      check.fine(x, "cheeseOf " + cheese, x.cheeseOf(0), -2);
    }
  }

  private static void cheeseByCases() {
    check.by("CHEESE in a CASE; HEARD or not");
    GoatCourt x = on(MILK + "0,6");
    // i is shy: with p in a it flees and eats nothing
    check.fine(x, "the first CASE", x.cheeseOf(0), 2 | 8 | 32);
    check.fine(x, "the first CASE", x.cheese(0), 1);
    check.fine(x, "the second CASE", x.cheeseOf(1), -2);
    check.fine(x, "the second CASE", x.cheese(1), 0);
    for (int g = 0; g < 6; g++) {
      x.hear(g, false);
    }
    check.fine(x, "none HEARD", x.cheese(0), 1);
    x.salt(0, 0, true);
    check.fine(x, "with SALT", x.cheese(0), 0);
    x = on(MILK + "0,4");
    check.fine(x, "the second CASE, with i or not", x.cheese(1), 2);
    check.fine(x, "the second CASE", x.cheeseOf(1), 2 | 32);
  }

  private static void appealsOfNone() {
    check.by("Promises 41, 42: no court");
    GoatCourt x = new GoatCourt();
    check.refused(x, "no HILL", x.appeals(), 1);
    check.refused(x, "no HILL", x.appealAt(0), 1);
    Check.hill(x, Hills.LEAST);
    check.fine(x, "no court", x.appeals(), 0L);
    check.refused(x, "no court", x.appealAt(0), 1);
    check.refused(x, "no court", x.appealAt(-1), 1);
  }

  private static void appeals() {
    check.by("APPEALS: the mean costs in 10 to as many as there are courts");
    // costs 1 and wins 9 each: 1, then a tenth of 1, ..
    String text = Hills.LEAST;
    long due = 0;
    for (int courts = 1; courts <= 6; courts++) {
      text += ";court c" + (char) ('a' + courts) + " costs 1 wins 9";
      due = due * 10 + 10;
      GoatCourt x = on(text);
      check.fine(x, courts + " courts", x.appeals(), due);
      for (int i = 0; i < courts; i++) {
        check.fine(x, "like ones, by numbers", x.appealAt(i), i);
      }
      check.refused(x, "one more", x.appealAt(courts), 1);
      check.refused(x, "one less", x.appealAt(-1), 1);
    }
    for (int wins = 1; wins <= 9; wins++) {
      GoatCourt x = on(Hills.LEAST + ";court c costs 99 wins " + wins);
      check.fine(x, "one court, wins " + wins, x.appeals(), 990L);
      x = on(Hills.LEAST + ";court c costs 99 wins " + wins + ";court d costs 99 wins " + wins);
      check.fine(x, "two courts, wins " + wins, x.appeals(), 9900L + 990 * (10 - wins));
      x = on(Hills.LEAST + ";court c costs 0 wins " + wins + ";court d costs 0 wins 1");
      check.fine(x, "costs nothing", x.appeals(), 0L);
    }
  }

  private static void bestOrder() {
    check.by("the BEST ORDER: that of least costs, of like ones the first by numbers");
    GoatCourt x = on(Hills.LEAST + ";court c costs 2 wins 1;court d costs 1 wins 1");
    check.fine(x, "the cheaper first", x.appealAt(0), 1);
    check.fine(x, "the cheaper first", x.appeals(), 100L + 2 * 90);
    x = on(Hills.LEAST + ";court c costs 1 wins 1;court d costs 1 wins 2");
    check.fine(x, "the likelier first", x.appealAt(0), 1);
    x = on(Hills.LEAST + ";court c costs 2 wins 2;court d costs 1 wins 1");
    check.fine(x, "like ones", x.appealAt(0), 0);
    x = on(Hills.LEAST + ";court c costs 0 wins 1;court d costs 0 wins 9;court e costs 0 wins 5");
    for (int i = 0; i < 3; i++) {
      check.fine(x, "all cost nothing", x.appealAt(i), i);
    }
    // what costs nothing is gone to ahead of all others, for it may be won; among such the order is free
    x = on(Hills.LEAST + ";court c costs 5 wins 9;court d costs 0 wins 1;court e costs 0 wins 1");
    int[] due = {1, 2, 0};
    for (int i = 0; i < 3; i++) {
      check.fine(x, "the free ones first", x.appealAt(i), due[i]);
    }
    check.fine(x, "their costs", x.appeals(), 5L * 10 * 9 * 9);
  }

  private static void orderOfSix() {
    check.by("all courts are gone to, one behind the other, till one is won");
    String[] costs = {"costs 99 wins 1", "costs 60 wins 3", "costs 30 wins 2", "costs 20 wins 4", "costs 9 wins 3", "costs 1 wins 9"};
    int[][] orders = {{0, 1, 2, 3, 4, 5}, {5, 4, 3, 2, 1, 0}, {3, 0, 5, 1, 4, 2}, {2, 5, 0, 4, 1, 3}};
    int[] cost = {99, 60, 30, 20, 9, 1};
    int[] wins = {1, 3, 2, 4, 3, 9};
    // by costs for a tenth won: 1/9, 3, 5, 15, 20, 99
    int[] best = {5, 4, 3, 2, 1, 0};
    long due = 0;
    for (int i = 0; i < 6; i++) {
      long part = cost[best[i]];
      for (int k = 0; k < 6; k++) {
        part *= k < i ? 10 - wins[best[k]] : 10;
      }
      due += part;
    }
    for (int[] order : orders) {
      StringBuilder text = new StringBuilder(Hills.LEAST);
      int[] number = new int[6];
      for (int i = 0; i < 6; i++) {
        text.append(";court c").append((char) ('a' + i)).append(' ').append(costs[order[i]]);
        number[order[i]] = i;
      }
      GoatCourt x = on(text.toString());
      check.fine(x, "the least costs", x.appeals(), due);
      for (int i = 0; i < 6; i++) {
        check.fine(x, "the best order", x.appealAt(i), number[best[i]]);
      }
    }
    GoatCourt x = on(Hills.LEAST + ";court a costs 99 wins 1;court b costs 99 wins 1;court c costs 99 wins 1;court d costs 99 wins 1;"
        + "court e costs 99 wins 1;court f costs 99 wins 1");
    check.fine(x, "the greatest costs", x.appeals(), 99L * (1000000 + 900000 + 810000 + 729000 + 656100 + 590490));
  }
}
