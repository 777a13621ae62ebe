/** The ACTS, UNDO and MARKS of terms III: promises 43 to 50, as many as are kept and one more, and what a refused one leaves. */
public final class ActEdgesTest {
  private static final Check check = new Check();

  public static void main(String[] args) {
    for (boolean dogs : new boolean[] {false, true}) {
      fourAtMost(dogs);
      roomAgain(dogs);
      refusalOrder(dogs);
      soAlready(dogs);
      lastPlaceAndHour(dogs);
    }
    eachHasItsRoom();
    hedges();
    hears();
    undoNothing();
    undoEach();
    sixteen();
    seventeen();
    undoThenAct();
    refusedOnesAreNoActs();
    marks();
    marksKeepAll();
    backTwice();
    backAndUndo();
    markAndUndo();
    backAndRoom();
    marksOfAHill();
    putOrder();
    check.end();
  }

  private static GoatCourt full() {
    GoatCourt x = new GoatCourt();
    check.due("the full HILL", Check.hill(x, Hills.FULL), 81);
    return x;
  }

  private static boolean act(GoatCourt x, boolean dogs, int place, int hour, boolean is) {
    return dogs ? x.dog(place, hour, is) : x.salt(place, hour, is);
  }

  /** All that is put, in order. */
  private static String all(GoatCourt x, boolean dogs) {
    StringBuilder all = new StringBuilder();
    for (int i = 0; i < 5; i++) {
      Object put = Check.put(x, i, dogs);
      all.append(put.equals(Check.THROWS) ? "-" : put).append(' ');
    }
    return all.toString().trim();
  }

  private static void fourAtMost(boolean dogs) {
    check.by("SALT and DOG (in a PLACE, an hour; put there, or taken away; 4 of each at most)");
    GoatCourt x = full();
    check.due("none at first", all(x, dogs), "- - - - -");
    check.fine(x, "1", act(x, dogs, 0, 0, true), true);
    check.due("1", all(x, dogs), "0 - - - -");
    check.fine(x, "2", act(x, dogs, 7, 11, true), true);
    check.fine(x, "3", act(x, dogs, 0, 1, true), true);
    check.due("3", all(x, dogs), "0 1 711 - -");
    check.fine(x, "4", act(x, dogs, 3, 5, true), true);
    check.due("4", all(x, dogs), "0 1 305 711 -");
    check.refused(x, "5", act(x, dogs, 3, 6, true), 3);
    check.refused(x, "5 elsewhere", act(x, dogs, 4, 5, true), 3);
    check.due("4, as before", all(x, dogs), "0 1 305 711 -");
    check.due("ACTS", x.size(12), 4);
    check.due("none of the other", all(x, !dogs), "- - - - -");
  }

  private static void roomAgain(boolean dogs) {
    check.by("4 of each at most (one taken away, or undone, makes room)");
    GoatCourt x = full();
    for (int hour = 0; hour < 4; hour++) {
      act(x, dogs, 2, hour, true);
    }
    check.refused(x, "no room", act(x, dogs, 2, 4, true), 3);
    check.fine(x, "taken away", act(x, dogs, 2, 0, false), true);
    check.due("three", all(x, dogs), "201 202 203 - -");
    check.fine(x, "room", act(x, dogs, 2, 4, true), true);
    check.refused(x, "no room", act(x, dogs, 2, 0, true), 3);
    check.fine(x, "undone", x.undo(), true);
    check.fine(x, "room", act(x, dogs, 2, 5, true), true);
    check.due("four", all(x, dogs), "201 202 203 205 -");
    check.fine(x, "undone", x.undo(), true);
    check.fine(x, "the taking away undone", x.undo(), true);
    check.due("four", all(x, dogs), "200 201 202 203 -");
    check.refused(x, "no room", act(x, dogs, 2, 4, true), 3);
  }

  private static void refusalOrder(boolean dogs) {
    check.by("false: 1 (PLACE); 2 (hour); 5 (it is so already); 3");
    GoatCourt x = full();
    for (int hour = 0; hour < 4; hour++) {
      act(x, dogs, 2, hour, true);
    }
    for (boolean is : new boolean[] {true, false}) {
      check.refused(x, "1 ahead of 2", act(x, dogs, 8, 12, is), 1);
      check.refused(x, "1 ahead of 2", act(x, dogs, -1, -1, is), 1);
      check.refused(x, "1", act(x, dogs, 8, 0, is), 1);
      check.refused(x, "2 ahead of 3, 5", act(x, dogs, 2, 12, is), 2);
      check.refused(x, "2 ahead of 3, 5", act(x, dogs, 2, -1, is), 2);
    }
    check.refused(x, "5 ahead of 3", act(x, dogs, 2, 3, true), 5);
    check.refused(x, "5", act(x, dogs, 2, 4, false), 5);
    check.refused(x, "3", act(x, dogs, 2, 4, true), 3);
    check.due("nothing of it is done", all(x, dogs), "200 201 202 203 -");
    check.due("nor kept", x.size(12), 4);
    GoatCourt none = new GoatCourt();
    check.refused(none, "no HILL", act(none, dogs, 0, 0, true), 1);
    check.refused(none, "no HILL, an hour", act(none, dogs, 0, 99, true), 1);
    check.refused(none, "no HILL, taken away", act(none, dogs, 0, 0, false), 1);
  }

  private static void soAlready(boolean dogs) {
    check.by("5 (it is so already)");
    GoatCourt x = full();
    check.refused(x, "nothing to take away", act(x, dogs, 0, 0, false), 5);
    check.fine(x, "put", act(x, dogs, 0, 0, true), true);
    check.refused(x, "put again", act(x, dogs, 0, 0, true), 5);
    check.refused(x, "another hour", act(x, dogs, 0, 1, false), 5);
    check.refused(x, "another PLACE", act(x, dogs, 1, 0, false), 5);
    check.refused(x, "the other sort", act(x, !dogs, 0, 0, false), 5);
    check.fine(x, "taken away", act(x, dogs, 0, 0, false), true);
    check.refused(x, "taken away again", act(x, dogs, 0, 0, false), 5);
    check.due("two ACTS", x.size(12), 2);
  }

  private static void lastPlaceAndHour(boolean dogs) {
    check.by("in a PLACE, an hour (the first and the last)");
    GoatCourt x = full();
    check.fine(x, "the last of both", act(x, dogs, 7, 11, true), true);
    check.refused(x, "behind the last PLACE", act(x, dogs, 8, 11, true), 1);
    check.refused(x, "behind the last hour", act(x, dogs, 7, 12, true), 2);
    x = new GoatCourt();
    Check.hill(x, Hills.LEAST);
    check.fine(x, "the only PLACE, the last hour", act(x, dogs, 0, 1, true), true);
    check.refused(x, "behind it", act(x, dogs, 0, 2, true), 2);
    check.refused(x, "no other PLACE", act(x, dogs, 1, 0, true), 1);
    check.fine(x, "the first hour", act(x, dogs, 0, 0, true), true);
    check.due("both", all(x, dogs), "0 1 - - -");
  }

  private static void eachHasItsRoom() {
    check.by("4 of each");
    GoatCourt x = full();
    for (int i = 0; i < 4; i++) {
      check.fine(x, "SALT", x.salt(5, i, true), true);
      check.fine(x, "DOG", x.dog(5, i, true), true);
    }
    check.refused(x, "SALT", x.salt(5, 4, true), 3);
    check.refused(x, "DOG", x.dog(5, 4, true), 3);
    check.due("SALTS", all(x, false), "500 501 502 503 -");
    check.due("DOGS", all(x, true), "500 501 502 503 -");
    check.fine(x, "HEDGES have room", x.hedge(0, true), true);
    check.fine(x, "and so have goats", x.hear(0, false), true);
    check.fine(x, "and MARKS", x.mark(), 0);
  }

  private static void hedges() {
    check.by("HEDGE (on a path, or off): true; false: 1; 5 (it is so already)");
    GoatCourt x = full();
    for (int path = 0; path < 14; path++) {
      check.refused(x, "off at first", x.hedge(path, false), 5);
      check.fine(x, "on", x.hedge(path, true), true);
      check.refused(x, "on already", x.hedge(path, true), 5);
    }
    for (boolean is : new boolean[] {true, false}) {
      check.refused(x, "no path", x.hedge(14, is), 1);
      check.refused(x, "no path", x.hedge(-1, is), 1);
    }
    check.due("near, HEDGES aside", x.near(0), 1 << 1 | 1 << 2 | 1 << 6 | 1 << 7);
    for (int g = 0; g < 6; g++) {
      check.due("no goat goes", x.at(80, g, 11), x.goat(g, 2));
    }
    for (int path = 13; path >= 0; path--) {
      check.fine(x, "off", x.hedge(path, false), true);
      check.refused(x, "off already", x.hedge(path, false), 5);
    }
    GoatCourt y = full();
    for (int g = 0; g < 6; g++) {
      check.due("they go again", x.at(80, g, 11), y.at(80, g, 11));
    }
    x = new GoatCourt();
    Check.hill(x, Hills.LEAST);
    check.refused(x, "no path at all", x.hedge(0, true), 1);
  }

  private static void hears() {
    check.by("HEAR (a goat is HEARD, or no more; at first all are): true; false: 1; 5 (it is so already)");
    GoatCourt x = full();
    for (int g = 0; g < 6; g++) {
      check.due("at first", x.goat(g, 6), 1);
      check.refused(x, "HEARD already", x.hear(g, true), 5);
      check.fine(x, "no more", x.hear(g, false), true);
      check.due("no more", x.goat(g, 6), 0);
      check.refused(x, "no more already", x.hear(g, false), 5);
    }
    check.fine(x, "none is HEARD: all fit", x.fits(), 81);
    for (boolean is : new boolean[] {true, false}) {
      check.refused(x, "no goat", x.hear(6, is), 1);
      check.refused(x, "no goat", x.hear(-1, is), 1);
    }
    for (int g = 5; g >= 0; g--) {
      check.fine(x, "again", x.hear(g, true), true);
      check.due("again", x.goat(g, 6), 1);
      check.due("the one ahead isn't yet", g == 0 ? 0 : x.goat(g - 1, 6), 0);
    }
    check.fine(x, "all are HEARD", x.fits(), 16);
    x = new GoatCourt();
    Check.hill(x, Hills.LEAST);
    check.refused(x, "no goat at all", x.hear(0, false), 1);
  }

  private static void undoNothing() {
    check.by("Promise 47: UNDO: true; false: 6");
    GoatCourt x = new GoatCourt();
    check.refused(x, "no HILL", x.undo(), 6);
    Check.hill(x, Hills.FULL);
    check.refused(x, "no ACT", x.undo(), 6);
    x.hedge(0, true);
    check.fine(x, "one ACT", x.undo(), true);
    check.refused(x, "no ACT any more", x.undo(), 6);
    check.refused(x, "it is off", x.hedge(0, false), 5);
  }

  private static void undoEach() {
    check.by("UNDO: the latest");
    GoatCourt x = full();
    x.salt(1, 2, true);
    x.salt(1, 2, false);
    x.dog(3, 4, true);
    x.dog(3, 4, false);
    x.hedge(5, true);
    x.hedge(5, false);
    x.hear(2, false);
    x.hear(2, true);
    String[] salts = {"-", "-", "-", "-", "-", "-", "102", "-"};
    String[] dogs = {"-", "-", "-", "-", "304", "-", "-", "-"};
    boolean[] hedge = {false, false, true, false, false, false, false, false};
    int[] heard = {0, 1, 1, 1, 1, 1, 1, 1};
    for (int i = 0; i < 8; i++) {
      check.fine(x, "undo " + i, x.undo(), true);
      check.due("SALT behind undo " + i, all(x, false), salts[i] + " - - - -");
      check.due("DOG behind undo " + i, all(x, true), dogs[i] + " - - - -");
      check.due("HEARD behind undo " + i, x.goat(2, 6), heard[i]);
      check.due("ACTS behind undo " + i, x.size(12), 7 - i);
      // whether there is a HEDGE is told by which of the two is refused
      check.due("HEDGE behind undo " + i, x.hedge(5, hedge[i]), false);
    }
    check.refused(x, "undo", x.undo(), 6);
  }

  private static void sixteen() {
    check.by("UNDO: .. (16 are kept)");
    for (int acts : new int[] {1, 15, 16, 17, 18, 31, 32, 33, 40}) {
      GoatCourt x = full();
      for (int i = 0; i < acts; i++) {
        x.hedge(0, i % 2 == 0);
        check.due("ACTS that can be undone", x.size(12), Math.min(16, i + 1));
      }
      int kept = Math.min(16, acts);
      for (int i = kept - 1; i >= 0; i--) {
        check.fine(x, "undo", x.undo(), true);
        check.due("ACTS that can be undone", x.size(12), i);
      }
      check.refused(x, "undo, none is kept", x.undo(), 6);
      boolean on = (acts - kept) % 2 == 1;
      check.due("as behind ACT " + (acts - kept), x.hedge(0, on), false);
    }
  }

  private static void seventeen() {
    check.by("16 are kept: the latest");
    GoatCourt x = full();
    for (int path = 0; path < 14; path++) {
      x.hedge(path, true);
    }
    for (int g = 0; g < 6; g++) {
      x.hear(g, false);
    }
    check.due("16 of 20", x.size(12), 16);
    for (int i = 0; i < 16; i++) {
      check.fine(x, "undo", x.undo(), true);
    }
    check.refused(x, "undo", x.undo(), 6);
    for (int path = 0; path < 14; path++) {
      check.due("the first four stay", x.hedge(path, path < 4), false);
    }
    for (int g = 0; g < 6; g++) {
      check.due("HEARD again", x.goat(g, 6), 1);
    }
  }

  private static void undoThenAct() {
    check.by("UNDO: the latest (what is undone isn't kept)");
    GoatCourt x = full();
    for (int i = 0; i < 17; i++) {
      x.hedge(i % 14, i < 14);
    }
    check.fine(x, "undo", x.undo(), true);
    check.fine(x, "undo", x.undo(), true);
    check.due("14", x.size(12), 14);
    check.fine(x, "an ACT", x.hear(5, false), true);
    check.due("15", x.size(12), 15);
    check.fine(x, "undo", x.undo(), true);
    check.due("HEARD", x.goat(5, 6), 1);
    check.fine(x, "undo: the ACT ahead of it", x.undo(), true);
    check.due("HEDGE 0 is on again", x.hedge(0, true), false);
    check.due("13", x.size(12), 13);
    // an undo is no ACT
    x = full();
    x.salt(0, 0, true);
    x.undo();
    check.due("none", x.size(12), 0);
    check.refused(x, "an undo can't be undone", x.undo(), 6);
  }

  private static void refusedOnesAreNoActs() {
    check.by("UNDO (a refused call is no ACT)");
    GoatCourt x = full();
    x.salt(1, 1, true);
    x.salt(1, 1, true);
    x.salt(9, 1, true);
    x.salt(1, 12, true);
    x.dog(1, 1, false);
    x.hedge(99, true);
    x.hedge(1, false);
    x.hear(0, true);
    x.hear(7, false);
    x.back(0);
    x.near(0);
    check.due("one ACT", x.size(12), 1);
    check.fine(x, "undo", x.undo(), true);
    check.due("no SALT", all(x, false), "- - - - -");
    check.refused(x, "undo", x.undo(), 6);
  }

  private static void marks() {
    check.by("MARKS: up to 3; A MARK: its number. NONE: 1 (no HILL); 3");
    GoatCourt x = new GoatCourt();
    check.refused(x, "no HILL", x.mark(), 1);
    check.refused(x, "no HILL", x.back(0), 1);
    Check.hill(x, Hills.FULL);
    for (int mark = 0; mark < 3; mark++) {
      check.due("MARKS", x.size(13), mark);
      check.refused(x, "back(" + mark + ")", x.back(mark), 1);
      check.fine(x, "mark " + mark, x.mark(), mark);
      check.fine(x, "back(" + mark + ")", x.back(mark), true);
    }
    for (int i = 0; i < 2; i++) {
      check.refused(x, "a fourth", x.mark(), 3);
      check.due("MARKS", x.size(13), 3);
    }
    for (int mark : new int[] {-1, 3, 4, Integer.MIN_VALUE, Integer.MAX_VALUE}) {
      check.refused(x, "back(" + mark + ")", x.back(mark), 1);
    }
    check.due("all MARKS stay", x.size(13), 3);
  }

  private static void marksKeepAll() {
    check.by("Promise 49: All is as by a MARK (all MARKS stay): true; false: 1");
    GoatCourt x = full();
    x.salt(7, 11, true);
    x.dog(0, 0, true);
    x.hedge(13, true);
    x.hear(5, false);
    check.fine(x, "mark 0", x.mark(), 0);
    int day = x.at(40, 0, 11);
    x.salt(7, 11, false);
    x.dog(0, 0, false);
    x.hedge(13, false);
    x.hear(5, true);
    x.salt(0, 5, true);
    x.salt(0, 6, true);
    x.dog(7, 1, true);
    x.hedge(0, true);
    x.hear(0, false);
    check.fine(x, "mark 1", x.mark(), 1);
    check.fine(x, "back(0)", x.back(0), true);
    check.due("SALT", all(x, false), "711 - - - -");
    check.due("DOGS", all(x, true), "0 - - - -");
    for (int path = 0; path < 14; path++) {
      check.due("HEDGE on " + path, x.hedge(path, path == 13), false);
    }
    for (int g = 0; g < 6; g++) {
      check.due("HEARD " + g, x.goat(g, 6), g == 5 ? 0 : 1);
    }
    check.due("the DAY", x.at(40, 0, 11), day);
    check.fine(x, "back(1)", x.back(1), true);
    check.due("SALT", all(x, false), "5 6 - - -");
    check.due("DOGS", all(x, true), "701 - - - -");
    for (int path = 0; path < 14; path++) {
      check.due("HEDGE on " + path, x.hedge(path, path == 0), false);
    }
    for (int g = 0; g < 6; g++) {
      check.due("HEARD " + g, x.goat(g, 6), g == 0 ? 0 : 1);
    }
    check.due("all MARKS stay", x.size(13), 2);
  }

  private static void backTwice() {
    check.by("All is as by a MARK (whatever comes behind it)");
    GoatCourt x = full();
    x.salt(3, 3, true);
    x.mark();
    for (int i = 0; i < 3; i++) {
      x.salt(4, i, true);
      x.hear(i, false);
      check.fine(x, "back", x.back(0), true);
      check.due("SALT", all(x, false), "303 - - - -");
      check.due("HEARD", x.goat(i, 6), 1);
      check.fine(x, "back where it is", x.back(0), true);
      check.due("SALT", all(x, false), "303 - - - -");
    }
    // what fits, by the DAYS of the MARK
    int fits = x.fits();
    x.dog(0, 0, true);
    x.dog(7, 0, true);
    x.fits();
    x.back(0);
    check.due("fits as by the MARK", x.fits(), fits);
    x.dog(0, 0, true);
    int other = x.at(0, 3, 0);
    x.back(0);
    x.dog(0, 0, true);
    check.due("and by an ACT behind it", x.at(0, 3, 0), other);
  }

  private static void backAndUndo() {
    check.by("gone back to one, nothing can be undone");
    GoatCourt x = full();
    x.salt(0, 0, true);
    x.salt(0, 1, true);
    x.mark();
    check.fine(x, "back", x.back(0), true);
    check.due("nothing", x.size(12), 0);
    check.refused(x, "undo", x.undo(), 6);
    check.due("SALT stays", all(x, false), "0 1 - - -");
    x.salt(0, 0, false);
    check.due("an ACT behind it", x.size(12), 1);
    check.fine(x, "undo", x.undo(), true);
    check.due("SALT again", all(x, false), "0 1 - - -");
    check.refused(x, "undo", x.undo(), 6);
    x.salt(0, 2, true);
    check.refused(x, "back refused", x.back(1), 1);
    check.due("then the ACT stays", x.size(12), 1);
    check.fine(x, "undo", x.undo(), true);
    // sixteen behind it
    x.back(0);
    for (int i = 0; i < 17; i++) {
      x.hedge(3, i % 2 == 0);
    }
    check.due("16", x.size(12), 16);
  }

  private static void markAndUndo() {
    check.by("A MARK: its number (no ACT)");
    GoatCourt x = full();
    x.salt(0, 0, true);
    x.hedge(2, true);
    check.fine(x, "mark", x.mark(), 0);
    check.due("ACTS ahead of a MARK can be undone", x.size(12), 2);
    check.fine(x, "undo", x.undo(), true);
    check.fine(x, "undo", x.undo(), true);
    check.due("no SALT", all(x, false), "- - - - -");
    check.due("the MARK stays", x.size(13), 1);
    check.fine(x, "back", x.back(0), true);
    check.due("SALT by the MARK", all(x, false), "0 - - - -");
    check.due("HEDGE by the MARK", x.hedge(2, true), false);
  }

  private static void backAndRoom() {
    check.by("4 of each at most (as by a MARK)");
    GoatCourt x = full();
    for (int hour = 0; hour < 4; hour++) {
      x.dog(6, hour, true);
    }
    x.mark();
    x.dog(6, 0, false);
    x.dog(6, 1, false);
    check.fine(x, "room", x.dog(5, 0, true), true);
    check.fine(x, "back", x.back(0), true);
    check.due("four", all(x, true), "600 601 602 603 -");
    check.refused(x, "no room", x.dog(5, 0, true), 3);
  }

  private static void marksOfAHill() {
    check.by("(.. nothing to undo, no MARKS)");
    GoatCourt x = full();
    x.mark();
    x.mark();
    x.mark();
    x.salt(0, 0, true);
    Check.hill(x, Hills.LEAST);
    check.due("no MARKS", x.size(13), 0);
    check.refused(x, "back", x.back(0), 1);
    check.refused(x, "undo", x.undo(), 6);
    check.fine(x, "a MARK of the new HILL", x.mark(), 0);
    x.salt(0, 0, true);
    check.fine(x, "back", x.back(0), true);
    check.due("no SALT", all(x, false), "- - - - -");
    check.refused(x, "a FAULT", Check.hill(x, "hill"), 4);
    check.fine(x, "the MARK stays behind it", x.back(0), true);
  }

  private static void putOrder() {
    check.by("Promise 50: by PLACES, then hours");
    int[][] spots = {{7, 11}, {7, 0}, {0, 11}, {0, 0}};
    for (int shift = 0; shift < 4; shift++) {
      GoatCourt x = full();
      for (int i = 0; i < 4; i++) {
        int[] spot = spots[(i + shift) % 4];
        x.salt(spot[0], spot[1], true);
        x.dog(7 - spot[0], spot[1], true);
      }
      check.due("SALTS", all(x, false), "0 11 700 711 -");
      check.due("DOGS", all(x, true), "0 11 700 711 -");
    }
  }
}
