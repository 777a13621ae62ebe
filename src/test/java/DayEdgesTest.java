/** Terms II, clause by clause, and what promises 13 to 20 tell of a DAY: at its first and last hours, with none and with all. */
public final class DayEdgesTest {
  private static final Check check = new Check();

  public static void main(String[] args) {
    cases();
    nowhere();
    hourByHour();
    fears();
    fearInThatHour();
    worths();
    unlikedPlants();
    saltInThatHour();
    canGo();
    kidsGo();
    kidsElse();
    kidsOfKids();
    flight();
    nowhereToFlee();
    stayWithSalt();
    goToSalt();
    eating();
    billiesEat();
    goingOn();
    byNumbers();
    dropping();
    droppingByHours();
    droppingByPlants();
    counting();
    meeting();
    clues();
    check.end();
  }

  private static GoatCourt on(String text) {
    GoatCourt x = new GoatCourt();
    int cases = Check.hill(x, text);
    check.due("hill of '" + text + "' taken (fault " + x.fault() + " at " + x.where() + ")", cases > 0, true);
    return x;
  }

  /** Where a goat is behind each hour, by the letters of PLACES a, b, .. */
  private static void way(String what, GoatCourt x, int c, int g, String due) {
    StringBuilder got = new StringBuilder();
    for (int hour = 0; hour < x.size(0); hour++) {
      got.append((char) ('a' + x.at(c, g, hour)));
    }
    check.due(what + ", its way", got, due);
  }

  private static void cases() {
    check.by("STORIES: one for each person who has any: CASES have numbers from 0 on, the first person's story counting most");
    String people = "hill hours 2 plants 1;place a 1;person p;person q;person r;person s";
    int[][] told = {{3, 3, 3, 3}, {0, 0, 0, 0}, {1, 1, 1, 1}, {2, 0, 3, 0}, {0, 2, 0, 3}, {3, 0, 0, 2}, {0, 0, 0, 2}, {3, 0, 0, 0},
        {1, 2, 1, 3}};
    for (int[] stories : told) {
      StringBuilder text = new StringBuilder(people);
      int cases = 1;
      // the last person's are told first: the order of people counts, not that of stories
      for (int p = 3; p >= 0; p--) {
        text.append((";story " + "pqrs".charAt(p) + " a").repeat(stories[p]));
        cases *= Math.max(1, stories[p]);
      }
      GoatCourt x = check.taken(text.toString(), cases);
      check.due("CASES", x.size(11), cases);
      int weight = cases;
      for (int p = 0; p < 4; p++) {
        check.due("stories(" + p + ")", x.stories(p), stories[p]);
        weight /= Math.max(1, stories[p]);
        for (int c = 0; c < cases; c++) {
          check.due("caseOf(" + c + ", " + p + ")", x.caseOf(c, p), stories[p] == 0 ? -2 : c / weight % stories[p]);
        }
      }
      check.refused(x, "caseOf one too many", x.caseOf(cases, 0), 1);
    }
    check.due("without people", check.taken(Hills.LEAST, 1).size(11), 1);
  }

  private static void nowhere() {
    check.by("(who has none is nowhere)");
    GoatCourt x = on("hill hours 2 plants 1;place a 9;place b 0;path a b;person p;person q;story q b;goat g shy likes a at a trust 5");
    way("a shy one, nobody here", x, 0, 0, "aa");
    check.due("met", x.met(0, 0, 0), 0);
    check.due("could", x.could(0, 0), 0);
    check.due("surely", x.surely(0, 1), -2);
    check.due("lies", x.lies(0), 0);
    check.due("proved", x.proved(0, 0, 0), -2);
    check.due("caseOf", x.caseOf(0, 0), -2);
    check.refused(x, "story", x.story(0, 0, 0), 1);
  }

  private static void hourByHour() {
    check.by("A person is in a PLACE in an hour as his story tells");
    String hill = "hill hours 12 plants 1;place a 0;place b 0;path a b;person p;goat g shy likes a at a trust 5;";
    for (int hour = 0; hour < 12; hour++) {
      // he comes to a in that hour, and the goat flees then, not sooner
      GoatCourt x = on(hill + "story p " + "b,".repeat(hour) + "a");
      way("he comes in hour " + hour, x, 0, 0, "a".repeat(hour) + "b".repeat(12 - hour));
      check.due("flees", x.flees(0, 0), 1);
    }
    GoatCourt x = on(hill + "story p a,b,a,b,a,b,a,b,a,b,a,b");
    way("he comes behind it each hour", x, 0, 0, "babababababa");
    check.due("flees in all hours", x.flees(0, 0), 12);
    x = on(hill + "story p b,a,b,a,b,a,b,a,b,a,b,a");
    way("he comes behind it from hour 1 on", x, 0, 0, "abababababab");
    check.due("flees in all but the first", x.flees(0, 0), 11);
  }

  private static void fears() {
    check.by("A goat FEARS in a PLACE: a person it fears, (shy) any person, a DOG there in that hour; a billy nothing");
    String[] kinds = {"plain", "shy", "billy", "kid m"};
    // told to fear p, how often it flees: from p, from q (both come to b in hour 1), nobody, a DOG, p and a DOG; a kid goes back
    String[] flees = {"20012", "22012", "00000", "10011"};
    for (int kind = 0; kind < 4; kind++) {
      for (int way = 0; way < 5; way++) {
        GoatCourt x = on("hill hours 2 plants 1;place a 9;place b 0;path a b;person p;person q;"
            + (way == 0 || way == 4 ? "story p a,b;" : way == 1 ? "story q a,b;" : "")
            + "goat m billy likes a at a trust 1;goat g " + kinds[kind] + " likes a at a trust 1;fears g p");
        if (way >= 3) {
          x.dog(0, 0, true);
        }
        int due = flees[kind].charAt(way) - '0';
        check.due(kinds[kind] + ", way " + way + ": at", x.at(0, 1, 0), Math.min(due, 1));
        check.due(kinds[kind] + ", way " + way + ": flees", x.flees(0, 1), due);
        check.due(kinds[kind] + ", way " + way + ": the billy stays", x.at(0, 0, 0), 0);
      }
    }
    // a billy that is told to fear, with all there is to fear
    GoatCourt x = on("hill hours 3 plants 1;place a 9;place b 0;path a b;person p;story p a;goat g billy likes a at a trust 1;"
        + "fears g p");
    for (int hour = 0; hour < 3; hour++) {
      x.dog(0, hour, true);
    }
    way("a billy", x, 0, 0, "aaa");
    check.due("a billy eats", x.ate(0, 0, 0), 6);
    // what another goat fears is not feared
    x = on("hill hours 2 plants 1;place a 9;place b 0;path a b;person p;person q;story p a;story q b;"
        + "goat g plain likes a at a trust 1;goat h plain likes a at a trust 1;fears h p;fears g q");
    way("g fears q alone", x, 0, 0, "aa");
    check.due("h fears p", x.at(0, 1, 0), 1);
  }

  private static void fearInThatHour() {
    check.by("a DOG there in that hour");
    String hill = "hill hours 12 plants 1;place a 0;place b 0;place c 0;path a b;path b c;goat g plain likes a at a trust 5";
    for (int hour = 0; hour < 12; hour++) {
      GoatCourt x = on(hill);
      x.dog(1, hour, true);
      way("a DOG beside it", x, 0, 0, "a".repeat(12));
      x.dog(2, hour, true);
      way("a DOG far away", x, 0, 0, "a".repeat(12));
      x.dog(1, hour, false);
      x.dog(0, hour, true);
      way("a DOG in hour " + hour, x, 0, 0, "a".repeat(hour) + "b".repeat(12 - hour));
      check.due("flees", x.flees(0, 0), 1);
      if (hour < 11) {
        x.dog(1, hour + 1, true);
        way("a DOG in hour " + hour + ", and one behind it", x, 0, 0, "a".repeat(hour) + "b" + "a".repeat(11 - hour));
        check.due("flees", x.flees(0, 0), 2);
      }
    }
  }

  private static void worths() {
    check.by("1 and the rank in its ORDER (from 0 on) of the first plant of which there is any; without such 9");
    // from e it goes to one of a, b, c, d, which have one plant each: the plant d in a, c in b, b in c, a in d
    String[] amounts = {"0,0,0,1", "0,0,1,0", "0,1,0,0", "1,0,0,0"};
    for (String order : new String[] {"abcd", "dcba", "bdac", "cadb", "a", "d", "cb", "bad"}) {
      for (int there = 0; there < 16; there++) {
        StringBuilder text = new StringBuilder("hill hours 2 plants 4");
        for (int place = 0; place < 4; place++) {
          text.append(";place ").append("abcd".charAt(place)).append(' ');
          text.append((there >> place & 1) == 1 ? amounts[place] : "0,0,0,0");
        }
        text.append(";place e 0,0,0,0;path a e;path e b;path c e;path e d;goat g plain likes ").append(order).append(" at e trust 1");
        char due = 'e';
        for (int i = order.length() - 1; i >= 0; i--) {
          int place = 'd' - order.charAt(i);
          due = (there >> place & 1) == 1 ? (char) ('a' + place) : due;
        }
        GoatCourt x = on(text.toString());
        check.due("likes " + order + ", PLACES with any " + there, (char) ('a' + x.at(0, 0, 0)), due);
        for (int plant = 0; plant < 4; plant++) {
          check.due("likes " + order + ", PLACES with any " + there + ": eats there what it came for", x.ate(0, 0, plant),
              due == 'd' - plant ? 1 : 0);
        }
      }
    }
    // of more plants in one PLACE the first in its ORDER counts, however few there are
    GoatCourt x = on("hill hours 3 plants 2;place a 9,0;place b 9,1;place c 0,0;path a c;path b c;goat g plain likes ba at c trust 1");
    way("one of the best", x, 0, 0, "bbb");
    check.due("eats the best", x.ate(0, 0, 1), 1);
    check.due("then the next", x.ate(0, 0, 0), 1);
  }

  private static void unlikedPlants() {
    check.by("without such 9");
    GoatCourt x = on("hill hours 3 plants 2;place a 0,9;place b 0,9;place c 1,0;path a b;path b c;goat g plain likes a at a trust 1");
    way("what isn't in its ORDER is nothing", x, 0, 0, "aaa");
    check.due("eats", x.ate(0, 0, 1), 0);
    check.due("left", x.left(0, 0, 1), 9);
    x = on("hill hours 3 plants 2;place a 0,9;place b 0,9;place c 1,0;path a b;path a c;goat g plain likes a at a trust 1");
    way("it passes by what it doesn't like", x, 0, 0, "ccc");
    // a fleeing one goes to the first of those of WORTH 9
    x = on("hill hours 2 plants 2;place a 0,0;place b 0,0;place c 0,9;place d 0,9;path a d;path a c;path a b;"
        + "goat g plain likes a at a trust 1");
    x.dog(0, 0, true);
    way("the first of the worthless", x, 0, 0, "bb");
  }

  private static void saltInThatHour() {
    check.by("WORTH of a PLACE for it: 0 with SALT there in that hour");
    String hill = "hill hours 12 plants 1;place a 0;place b 0;place c 0;path a b;path b c;goat g plain likes a at a trust 5";
    for (int hour = 0; hour < 12; hour++) {
      GoatCourt x = on(hill);
      x.salt(1, hour, true);
      way("SALT in hour " + hour, x, 0, 0, "a".repeat(hour) + "b".repeat(12 - hour));
      x.salt(2, hour, true);
      way("SALT two paths away", x, 0, 0, "a".repeat(hour) + "b".repeat(12 - hour));
      x.salt(0, hour, true);
      way("SALT where it is", x, 0, 0, "a".repeat(12));
      check.due("flees", x.flees(0, 0), 0);
    }
  }

  private static void canGo() {
    check.by("It can go from PLACE to PLACE by a path without a HEDGE, to where it FEARS nothing");
    for (String path : new String[] {"path a b", "path b a"}) {
      String hill = "hill hours 2 plants 1;place a 0;place b 1;place c 1;" + path + ";path a c;person p;story p b;";
      GoatCourt x = on(hill + "goat g plain likes a at a trust 1");
      way("either way", x, 0, 0, "bb");
      x.hedge(1, true);
      way("a HEDGE elsewhere", x, 0, 0, "bb");
      x.hedge(0, true);
      way("HEDGES on both", x, 0, 0, "aa");
      x.hedge(1, false);
      way("a HEDGE on the first", x, 0, 0, "cc");
      x = on(hill + "goat g plain likes a at a trust 1;fears g p");
      way("what it fears on the first", x, 0, 0, "cc");
      x.dog(2, 0, true);
      way("and a DOG on the second", x, 0, 0, "ac");
      x.dog(2, 1, true);
      way("for both hours", x, 0, 0, "aa");
      check.due("that is no fleeing", x.flees(0, 0), 0);
    }
    GoatCourt x = on("hill hours 2 plants 1;place a 0;place b 1;goat g plain likes a at a trust 1");
    way("no path", x, 0, 0, "aa");
    x.salt(1, 0, true);
    way("no path to SALT", x, 0, 0, "aa");
    x.dog(0, 0, true);
    way("no path to flee by", x, 0, 0, "aa");
    check.due("flees", x.flees(0, 0), 0);
  }

  private static void kidsGo() {
    check.by("A kid whose mother is elsewhere then goes there, if there is a path without a HEDGE, whatever it FEARS");
    String hill = "hill hours 3 plants 1;place a 0;place b 9;place c 9;path a b;path a c;path b c;person p;story p b;";
    String both = "goat m plain likes a at a trust 1;goat k kid m likes a at ";
    // she has gone already in this hour
    GoatCourt x = on(hill + both + "a trust 1");
    way("the mother", x, 0, 0, "bbb");
    way("its kid", x, 0, 1, "bbb");
    check.due("going it eats nothing", x.ate(0, 1, 0), 2);
    // to where it fears, and from SALT, and from what it likes
    x = on(hill + both + "c trust 1;fears k p");
    check.due("to where it fears", x.at(0, 1, 0), 1);
    check.due("that is no fleeing", x.flees(0, 1), 1);
    check.due("there it flees in the next hour", x.at(0, 1, 1), 2);
    check.due("and comes back in the next", x.at(0, 1, 2), 1);
    check.due("it never eats", x.ate(0, 1, 0), 0);
    x = on(hill + both + "c trust 1");
    x.salt(2, 0, true);
    x.hedge(1, true);
    x.dog(1, 0, true);
    // the mother can't go to b, where a DOG is, nor to c: she stays in a
    way("the mother stays", x, 0, 0, "abb");
    way("a HEDGE is between: it stays with SALT", x, 0, 1, "cbb");
    x.hedge(1, false);
    // now she goes to the SALT in c, where it is
    way("the mother comes", x, 0, 0, "ccc");
    way("it stays", x, 0, 1, "ccc");
    x = on(hill + both + "c trust 1");
    x.salt(2, 0, true);
    x.salt(0, 0, true);
    way("the mother stays with her SALT", x, 0, 0, "abb");
    way("it goes to her, away from its own", x, 0, 1, "abb");
    x.dog(0, 0, true);
    x.dog(0, 1, true);
    // she flees to the SALT in c
    way("the mother flees", x, 0, 0, "ccc");
    // a DOG where she is, and she can't flee
    x = on("hill hours 2 plants 1;place a 0;place b 9;path a b;goat m plain likes a at a trust 1;goat k kid m likes a at b trust 1");
    x.dog(0, 0, true);
    x.dog(1, 0, true);
    check.due("the mother can't flee", x.at(0, 0, 0), 0);
    check.due("it goes to her, DOGS or not", x.at(0, 1, 0), 0);
    check.due("flees", x.flees(0, 1), 0);
  }

  private static void kidsElse() {
    check.by("A kid .. Else: (as other goats do)");
    String hill = "hill hours 3 plants 1;place a 9;place b 1;place c 0;path a b;path b c;";
    // the mother is two paths away: it eats, then goes on by itself
    GoatCourt x = on(hill + "goat m plain likes a at a trust 1;goat k kid m likes a at c trust 1");
    way("the mother", x, 0, 0, "aaa");
    way("it goes to b for what is there, then to her", x, 0, 1, "baa");
    check.due("eats", x.ate(0, 1, 0), 1);
    // a HEDGE on the path to her: it flees, takes SALT, eats as others
    x = on(hill + "goat m plain likes a at a trust 1;goat k kid m likes a at b trust 1");
    way("no HEDGE", x, 0, 1, "aaa");
    x.hedge(0, true);
    way("a HEDGE", x, 0, 1, "bbb");
    check.due("it eats", x.ate(0, 1, 0), 1);
    x.dog(1, 1, true);
    way("a HEDGE, and a DOG", x, 0, 1, "bcc");
    check.due("it flees", x.flees(0, 1), 1);
    x.salt(2, 0, true);
    way("a HEDGE, and SALT", x, 0, 1, "ccb");
    // where she is: it does as others do
    x = on(hill + "goat m plain likes a at a trust 1;goat k kid m likes a at a trust 1");
    check.due("it eats beside her", x.ate(0, 1, 0), 3);
    x.salt(1, 0, true);
    check.due("both go to SALT", x.at(0, 0, 0) + x.at(0, 1, 0), 2);
    x = on(hill + "person p;story p a;goat m plain likes a at a trust 1;goat k kid m likes a at a trust 1;fears k p");
    check.due("it flees from beside her", x.at(0, 1, 0), 1);
    check.due("and goes to her again", x.at(0, 1, 1), 0);
    check.due("and flees again", x.flees(0, 1), 2);
  }

  private static void kidsOfKids() {
    check.by("(she has gone already in this hour)");
    GoatCourt x = on("hill hours 3 plants 1;place a 0;place b 0;place c 9;path a b;path b c;goat m plain likes a at b trust 1;"
        + "goat k kid m likes a at b trust 1;goat l kid k likes a at b trust 1;goat n kid m likes a at a trust 1;"
        + "goat o kid n likes a at a trust 1");
    way("the mother", x, 0, 0, "ccc");
    way("its kid", x, 0, 1, "ccc");
    way("the kid's kid", x, 0, 2, "ccc");
    // m is two paths away behind her going: n sees nothing that it likes from a
    way("another kid, too far away", x, 0, 3, "aaa");
    way("its kid", x, 0, 4, "aaa");
    x.salt(1, 1, true);
    // m stays in c in hour 0, goes to SALT in hour 1; n follows in the same hour, o too
    way("the mother goes to SALT", x, 0, 0, "cbc");
    way("another kid goes to her", x, 0, 3, "abc");
    way("its kid goes to it", x, 0, 4, "abc");
  }

  private static void flight() {
    check.by("where it FEARS something it FLEES: to the PLACE of least WORTH, the first such");
    String star = "hill hours 2 plants 2;place a 0,0;place b 0,1;place c 1,0;place d 1,0;place e 9,9;path e d;path e c;path e b;"
        + "path e a;goat g plain likes ab at e trust 1;goat h plain likes b at e trust 1;goat i plain likes ba at e trust 1";
    GoatCourt x = on(star);
    x.dog(4, 0, true);
    check.due("g: c, d are best, the first", x.at(0, 0, 0), 2);
    check.due("h: b is best", x.at(0, 1, 0), 1);
    check.due("i: b is best", x.at(0, 2, 0), 1);
    check.due("flees", x.flees(0, 0), 1);
    check.due("who flees eats nothing then", x.ate(0, 0, 0), 1);
    x.dog(2, 0, true);
    check.due("g: not to c", x.at(0, 0, 0), 3);
    x.dog(3, 0, true);
    check.due("g: not to d", x.at(0, 0, 0), 1);
    x.dog(1, 0, true);
    check.due("g: not to b, then a", x.at(0, 0, 0), 0);
    check.due("flees to the worthless too", x.flees(0, 0), 1);
    x = on(star);
    x.dog(4, 0, true);
    x.salt(3, 0, true);
    check.due("SALT is least", x.at(0, 0, 0), 3);
    x.salt(0, 0, true);
    check.due("the first with SALT", x.at(0, 0, 0), 0);
    x.salt(4, 0, true);
    check.due("SALT where it is doesn't hold it", x.at(0, 0, 0), 0);
    x.hedge(3, true);
    check.due("a HEDGE ahead of the first", x.at(0, 0, 0), 3);
  }

  private static void nowhereToFlee() {
    check.by("if it can go nowhere it stays, and eats nothing; In how many hours it FLEES, and goes");
    String hill = "hill hours 4 plants 1;place a 9;place b 9;path a b;goat g plain likes a at a trust 1";
    GoatCourt x = on(hill);
    check.due("it eats", x.ate(0, 0, 0), 4);
    x.dog(0, 1, true);
    x.hedge(0, true);
    way("a HEDGE", x, 0, 0, "aaaa");
    check.due("it eats nothing in that hour", x.ate(0, 0, 0), 3);
    check.due("it doesn't go", x.flees(0, 0), 0);
    x.hedge(0, false);
    way("no HEDGE", x, 0, 0, "abbb");
    check.due("it goes", x.flees(0, 0), 1);
    check.due("it eats in the others", x.ate(0, 0, 0), 3);
    x.dog(1, 1, true);
    way("a DOG there too", x, 0, 0, "aaaa");
    check.due("it eats nothing in that hour", x.ate(0, 0, 0), 3);
    check.due("it doesn't go", x.flees(0, 0), 0);
    x.salt(0, 1, true);
    x.salt(1, 1, true);
    way("SALT doesn't help", x, 0, 0, "aaaa");
    x = on(hill);
    x.hedge(0, true);
    for (int hour = 0; hour < 4; hour++) {
      x.dog(0, hour, true);
      check.due("DOGS in more hours", x.ate(0, 0, 0), 3 - hour);
    }
    x = on("hill hours 3 plants 1;place a 9;person p;story p a;goat g shy likes a at a trust 1");
    check.due("one PLACE alone: eats nothing", x.ate(0, 0, 0), 0);
    check.due("drops nothing", x.drops(0, 0, 0, 0), 0);
    check.due("all is left", x.left(0, 0, 0), 9);
  }

  private static void stayWithSalt() {
    check.by("Else, if its PLACE has WORTH 0, it stays");
    GoatCourt x = on("hill hours 4 plants 1;place a 9;place b 9;path a b;goat g plain likes a at a trust 1;"
        + "goat h billy likes a at a trust 1");
    for (int hour = 0; hour < 4; hour++) {
      x.salt(0, hour, true);
      way("with SALT", x, 0, 0, "aaaa");
      check.due("eats in the other hours", x.ate(0, 0, 0), 3 - hour);
      check.due("a billy too", x.ate(0, 1, 0), Math.min(2 * (3 - hour), 9 - (3 - hour)));
    }
    x.salt(0, 0, false);
    x.salt(1, 1, true);
    way("there is SALT beside it too", x, 0, 0, "aaaa");
  }

  private static void goToSalt() {
    check.by("else, if it can go to one with SALT, it goes to the first such");
    GoatCourt x = on("hill hours 2 plants 1;place a 0;place b 0;place c 9;place d 9;path c d;path c b;path c a;"
        + "goat g plain likes a at c trust 1");
    way("no SALT", x, 0, 0, "cc");
    x.salt(3, 0, true);
    way("SALT ahead of what it eats", x, 0, 0, "dd");
    check.due("going it eats nothing", x.ate(0, 0, 0), 1);
    x.salt(1, 0, true);
    way("the first", x, 0, 0, "bc");
    x.salt(0, 0, true);
    way("the first", x, 0, 0, "ac");
    x.hedge(2, true);
    way("a HEDGE ahead of the first", x, 0, 0, "bc");
    x.dog(1, 0, true);
    way("a DOG on the second", x, 0, 0, "dd");
    x.dog(3, 0, true);
    way("a DOG on the third", x, 0, 0, "cc");
    check.due("it eats", x.ate(0, 0, 0), 2);
    check.due("that is no fleeing", x.flees(0, 0), 0);
    x.salt(2, 1, true);
    check.due("SALT where it is in the last hour", x.ate(0, 0, 0), 1);
  }

  private static void eating() {
    check.by("else, if its PLACE has WORTH below 9, it eats: of that plant one");
    for (int amount = 0; amount <= 9; amount++) {
      GoatCourt x = on("hill hours 12 plants 2;place a " + amount + ",0;place b 0,9;goat g plain likes a at a trust 1");
      check.due("of " + amount + " it eats", x.ate(0, 0, 0), amount);
      check.due("of " + amount + " is left", x.left(0, 0, 0), 0);
      check.due("nothing of the other", x.ate(0, 0, 1), 0);
      check.due("the other PLACE is as it was", x.left(0, 1, 1), 9);
      check.due("as told at first", x.plants(0, 0), amount);
    }
    // the last in its ORDER, by rank 3
    GoatCourt x = on("hill hours 4 plants 4;place a 1,1,1,1;place b 9,9,9,9;path a b;goat g plain likes cadb at a trust 1");
    way("all four are below 9", x, 0, 0, "aaaa");
    for (int plant = 0; plant < 4; plant++) {
      check.due("one of each", x.ate(0, 0, plant), 1);
      check.due("none is left", x.left(0, 0, plant), 0);
    }
    // which first: by what is left when the day is shorter
    x = on("hill hours 2 plants 4;place a 1,1,1,1;goat g plain likes cadb at a trust 1");
    check.due("c first", x.ate(0, 0, 2), 1);
    check.due("then a", x.ate(0, 0, 0), 1);
    check.due("not yet d", x.ate(0, 0, 3), 0);
    check.due("not yet b", x.left(0, 0, 1), 1);
    // it eats what is there though there is better beside it
    x = on("hill hours 2 plants 2;place a 0,2;place b 9,0;path a b;goat g plain likes ab at a trust 1");
    way("it eats first", x, 0, 0, "aa");
  }

  private static void billiesEat() {
    check.by("(a billy two, if there are)");
    for (int amount = 0; amount <= 9; amount++) {
      for (int hours = 2; hours <= 6; hours++) {
        GoatCourt x = on("hill hours " + hours + " plants 1;place a " + amount + ";goat g billy likes a at a trust 1");
        check.due("of " + amount + " in " + hours + " hours", x.ate(0, 0, 0), Math.min(amount, 2 * hours));
        check.due("left of " + amount + " in " + hours + " hours", x.left(0, 0, 0), Math.max(0, amount - 2 * hours));
      }
    }
    // two of one plant, not one of each
    GoatCourt x = on("hill hours 2 plants 2;place a 1,5;goat g billy likes ab at a trust 1");
    check.due("one a, for there are no two", x.ate(0, 0, 0), 1);
    check.due("then two b", x.ate(0, 0, 1), 2);
    // other kinds never eat two
    x = on("hill hours 2 plants 1;place a 9;goat g shy likes a at a trust 1;goat h kid g likes a at a trust 1");
    check.due("a shy one", x.ate(0, 0, 0), 2);
    check.due("a kid", x.ate(0, 1, 0), 2);
  }

  private static void goingOn() {
    check.by("else it goes to the PLACE of least WORTH, the first such, if that is below 9; else it stays");
    GoatCourt x = on("hill hours 4 plants 2;place a 0,1;place b 0,1;place c 1,0;place d 0,0;path d c;path d b;path d a;"
        + "goat g plain likes ba at d trust 1");
    // a and b have what it likes best; from a only d is beside it, and that is worthless
    way("the first of like ones", x, 0, 0, "aaaa");
    check.due("eats", x.ate(0, 0, 1), 1);
    x = on("hill hours 4 plants 2;place a 0,1;place b 0,1;place c 1,0;place d 0,0;path d c;path d b;path d a;path a b;path b c;"
        + "goat g plain likes ba at d trust 1");
    way("on and on", x, 0, 0, "aabb");
    x = on("hill hours 3 plants 1;place a 0;place b 0;place c 0;path a b;path a c;goat g plain likes a at a trust 1");
    way("nothing anywhere", x, 0, 0, "aaa");
    // rank 3 in its ORDER is WORTH 4, and below 9
    x = on("hill hours 2 plants 4;place a 0,0,0,0;place b 0,0,0,1;path a b;goat g plain likes abcd at a trust 1");
    way("the last in its ORDER", x, 0, 0, "bb");
    check.due("eats it", x.ate(0, 0, 3), 1);
  }

  private static void byNumbers() {
    check.by("the goats by numbers");
    GoatCourt x = on("hill hours 2 plants 1;place a 3;place b 9;path a b;goat f plain likes a at a trust 1;"
        + "goat g billy likes a at a trust 1;goat h plain likes a at a trust 1;goat i plain likes a at a trust 1");
    check.due("the first eats one", x.ate(0, 0, 0), 1);
    check.due("the second two", x.at(0, 1, 0) * 10 + x.ate(0, 1, 0), 2);
    check.due("the third finds none, and goes", x.at(0, 2, 0), 1);
    check.due("the fourth too", x.at(0, 3, 0), 1);
    check.due("the first goes in the next hour", x.at(0, 0, 1), 1);
    check.due("the third eats then", x.ate(0, 2, 0), 1);
  }

  private static void dropping() {
    check.by("It DROPS what it ate in an hour two hours later, where it is then (behind that hour's going; not behind the last hour)");
    // a in hour 0, SALT leads it: b in hour 1, c in hour 2, back in b
    String hill = "hill hours 4 plants 1;place a 1;place b 0;place c 0;path a b;path b c;goat g plain likes a at a trust 1";
    GoatCourt x = on(hill);
    x.salt(1, 1, true);
    x.salt(2, 2, true);
    x.salt(1, 3, true);
    way("led", x, 0, 0, "abcb");
    check.due("not where it ate", x.drops(0, 0, 0, 0), 0);
    check.due("not where it was one hour later", x.drops(0, 0, 0, 1), 0);
    check.due("where it is two hours later, behind its going", x.drops(0, 0, 0, 2), 1);
    check.due("ate", x.ate(0, 0, 0), 1);
    // what is eaten in all hours of n drops for all but the last two
    for (int hours = 2; hours <= 12; hours++) {
      x = on("hill hours " + hours + " plants 2;place a 9,9;goat g plain likes ba at a trust 1;goat h billy likes a at a trust 1");
      int dropped = hours - 2;
      check.due("hours " + hours + ": drops b", x.drops(0, 0, 1, 0), Math.min(9, dropped));
      check.due("hours " + hours + ": ate b", x.ate(0, 0, 1), Math.min(9, hours));
      int two = Math.min(9, 2 * dropped);
      check.due("hours " + hours + ": a billy drops", x.drops(0, 1, 0, 0), two);
    }
  }

  private static void droppingByHours() {
    check.by("two hours later .. not behind the last hour");
    // it eats in one hour alone: SALT keeps it from eating in the others of four
    for (int hour = 0; hour < 4; hour++) {
      GoatCourt x = on("hill hours 4 plants 1;place a 9;goat g plain likes a at a trust 1;found g a a");
      for (int other = 0; other < 4; other++) {
        if (other != hour) {
          x.salt(0, other, true);
        }
      }
      check.due("ate in hour " + hour, x.ate(0, 0, 0), 1);
      check.due("drops of hour " + hour, x.drops(0, 0, 0, 0), hour <= 1 ? 1 : 0);
      check.due("found is TRUE", x.isTrue(0, 0), hour <= 1 ? 1 : 0);
      check.due("fits", x.fits(), hour <= 1 ? 1 : 0);
    }
    // nothing is dropped of a day before, nor of a CASE before
    GoatCourt x = on("hill hours 3 plants 2;place a 1,9;place b 9,9;path a b;person p;story p a;story p b;"
        + "goat g shy likes ab at a trust 1");
    check.due("it flees to b, and eats there", x.drops(0, 0, 0, 1), 0);
    check.due("ate", x.ate(0, 0, 0), 2);
    check.due("it stays, and drops one", x.drops(1, 0, 0, 0), 1);
    check.due("the first CASE again", x.drops(0, 0, 0, 0) + x.drops(0, 0, 0, 1), 0);
    x.salt(0, 0, true);
    check.due("with SALT nothing is dropped", x.drops(1, 0, 0, 0), 0);
    x.undo();
    check.due("without it one is", x.drops(1, 0, 0, 0), 1);
  }

  private static void droppingByPlants() {
    check.by("Promise 16: How many of a plant it DROPS in a PLACE");
    for (int plant = 0; plant < 4; plant++) {
      char letter = (char) ('a' + plant);
      for (int hours = 3; hours <= 5; hours++) {
        GoatCourt x = on("hill hours " + hours + " plants 4;place p 0,0,0,0;place q 9,9,9,9;goat g plain likes " + letter
            + " at q trust 1;goat h billy likes " + letter + " at q trust 1");
        for (int other = 0; other < 4; other++) {
          check.due("drops one an hour", x.drops(0, 0, other, 1), other == plant ? hours - 2 : 0);
          // nine are enough for the three hours of which anything drops
          check.due("a billy drops two an hour", x.drops(0, 1, other, 1), other == plant ? 2 * (hours - 2) : 0);
          check.due("not elsewhere", x.drops(0, 0, other, 0) + x.drops(0, 1, other, 0), 0);
        }
      }
    }
  }

  private static void counting() {
    check.by("Promises 15 to 18: how many");
    GoatCourt x = on("hill hours 12 plants 1;place a 9;place b 9;path a b;goat g billy likes a at a trust 1");
    check.due("ate the most", x.ate(0, 0, 0), 18);
    check.due("left in the first", x.left(0, 0, 0), 0);
    check.due("left in the second", x.left(0, 1, 0), 0);
    // five hours for nine, one to go, five for nine; what it eats in hour 10 doesn't drop any more
    way("its way", x, 0, 0, "aaaaabbbbbbb");
    check.due("drops in a", x.drops(0, 0, 0, 0), 6);
    check.due("drops in b", x.drops(0, 0, 0, 1), 11);
    // four plants, none of another's
    x = on("hill hours 2 plants 4;place a 9,8,7,6;place b 5,4,3,2;goat g plain likes d at b trust 1");
    int[][] left = {{9, 8, 7, 6}, {5, 4, 3, 0}};
    for (int place = 0; place < 2; place++) {
      for (int plant = 0; plant < 4; plant++) {
        check.due("left(0, " + place + ", " + plant + ")", x.left(0, place, plant), left[place][plant]);
        check.due("drops", x.drops(0, 0, plant, place), 0);
      }
    }
  }

  private static void meeting() {
    check.by("Promise 19: Behind how many hours a goat is where a person is in that hour");
    String hill = "hill hours 12 plants 1;place a 0;place b 0;path a b;person p;person q;goat g plain likes a at a trust 1;"
        + "goat h shy likes a at a trust 1;story p a;story p b;story p ";
    GoatCourt x = on(hill + "b,b,b,b,b,b,b,b,b,b,b,a");
    check.due("in all hours", x.met(0, 0, 0), 12);
    check.due("in none", x.met(1, 0, 0), 0);
    check.due("in the last", x.met(2, 0, 0), 1);
    check.due("one who is nowhere", x.met(0, 0, 1), 0);
    check.due("one that flees him", x.met(0, 1, 0), 0);
    x = on(hill + "a,b");
    check.due("in the first", x.met(2, 0, 0), 1);
    check.due("behind its going", x.met(2, 1, 0), 0);
    // it goes to where he is in that hour
    x.salt(1, 1, true);
    check.due("in the first, and from hour 1 on", x.met(2, 0, 0), 12);
  }

  private static void clues() {
    check.by("A CLUE is TRUE in a CASE: found: that goat DROPS that plant in that PLACE; seen: it is there behind that hour; "
        + "shied: it isn't");
    StringBuilder text = new StringBuilder("hill hours 3 plants 2;place a 1,0;place b 0,1;path a b;goat g plain likes ab at a trust 1;"
        + "goat h plain likes ba at b trust 1");
    // g eats a in a, goes to b (h has eaten b by then: nothing there): stays in a; h eats b, then nothing is beside it
    String[] clues = {"found g a a", "found g b a", "found g a b", "found h a a", "found h b b", "seen g a 0", "seen g b 0",
        "seen g a 2", "shied g a 2", "shied g b 0"};
    int[] due = {1, 0, 0, 0, 1, 1, 0, 1, 0, 1};
    for (String clue : clues) {
      text.append(';').append(clue);
    }
    GoatCourt x = on(text.toString());
    way("g", x, 0, 0, "aaa");
    way("h", x, 0, 1, "bbb");
    for (int k = 0; k < 10; k++) {
      check.due(clues[k], x.isTrue(0, k), due[k]);
    }
    // found two, or more: as good as one
    x = on("hill hours 4 plants 1;place a 9;goat g billy likes a at a trust 1;found g a a;seen g a 3;shied g a 3");
    check.due("drops four", x.drops(0, 0, 0, 0), 4);
    check.due("found", x.isTrue(0, 0), 1);
    check.due("seen in the last hour", x.isTrue(0, 1), 1);
    check.due("shied in the last hour", x.isTrue(0, 2), 0);
    check.by("Promise 20: Whether a CLUE is TRUE: 1, 0");
    x.hear(0, false);
    check.due("of a goat not HEARD", x.isTrue(0, 0), 1);
    x.salt(0, 0, true);
    x.salt(0, 1, true);
    check.due("by another DAY", x.isTrue(0, 0), 0);
  }
}
