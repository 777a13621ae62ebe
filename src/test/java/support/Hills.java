/** Texts that several tests use: the least HILL, and one that has as much of all as there is room for. */
public final class Hills {
  public static final String[] RESERVED = {"hill", "place", "path", "person", "story", "goat", "fears", "found", "seen",
      "shied", "fact", "holds", "rule", "proof", "court", "cheese", "if"};

  /** Nothing more than must be told. */
  public static final String LEAST = "hill hours 2 plants 1;place z 0";

  /** 12 hours, 4 plants, 8 PLACES, 14 paths, 4 people with 3 stories, 6 goats, 8 fears, 10 CLUES, 8 FACTS, 8 rules, 8 steps,
   * 6 courts, a cheese. */
  public static final String FULL = full();

  /** How many of the things that size() tells, 0 to 11, FULL has. */
  public static final int[] FULL_SIZES = {12, 4, 8, 14, 4, 6, 10, 8, 8, 8, 6, 81};

  private Hills() {
  }

  private static String full() {
    return "hill hours 12 plants 4;"
        + "place a 9,0,9,0;place b 0,9,0,0;place c 1,0,0,9;place d 0,0,0,0;"
        + "place e 0,2,0,0;place f 0,0,1,0;place g 2,0,0,0;place h 9,9,9,9;"
        + "path a b;path b c;path c d;path d e;path e f;path f g;path g h;"
        + "path h a;path a c;path c e;path e g;path g a;path b d;path h f;"
        + "person i;person j;person k;person l;"
        + "story i a;story i b;story i c;story j h;story j d;story j g;"
        + "story k e;story k f;story k h;story l b;story l c;story l h,g,f;"
        + "goat m shy likes ab at a trust 1;goat n shy likes b at b trust 9;goat o billy likes a at h trust 5;"
        + "goat p kid m likes c at a trust 2;goat q kid p likes d at c trust 7;goat r plain likes dcba at h trust 9;"
        + "fears m i;fears m j;fears p k;fears q l;fears r i;fears r j;fears r k;fears r l;"
        + "seen m a 0;shied m h 9;shied n h 0;seen o h 0;shied p h 0;seen q a 0;shied q a 11;found m a a;found o a h;"
        + "seen r h 11;"
        + "fact s;fact t;fact u;fact v;fact w;fact x;fact y;fact z;holds s;"
        + "rule t if s;rule u if t;rule v if u,t,s;rule w if v;rule w if z;rule x if y;rule y if x;rule x if w;"
        + "proof s,t,u,v,z,w,x,y;"
        + "court ca costs 99 wins 1;court cb costs 0 wins 9;court cc costs 5 wins 2;court cd costs 7 wins 3;"
        + "court ce costs 9 wins 4;court cf costs 1 wins 1;"
        + "cheese 9,10,0,0";
  }
}
