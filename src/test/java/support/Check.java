import java.nio.charset.StandardCharsets;
import java.util.NoSuchElementException;

/** Counts and prints answers that are not the due ones, and feeds texts. */
public final class Check {
  public static final String THROWS = "throws.NoSuchElementException";
  private int wrong = 0;
  private int made = 0;
  private String sentence = "";

  /** The words of the document that the answers from now on are due by; printed with wrong ones. */
  public void by(String words) {
    sentence = " (by: " + words + ")";
  }

  public void due(String call, Object got, Object want) {
    made++;
    if (!String.valueOf(got).equals(String.valueOf(want))) {
      wrong++;
      if (wrong <= 50) {
        System.out.println(call + " answered " + got + ", due is " + want + sentence);
      }
    }
  }

  /** A call that is refused, and by which number. */
  public void refused(GoatCourt x, String call, Object got, int trouble) {
    due(call, got, got instanceof Boolean ? (Object) false : (Object) (-1));
    due(call + ", then trouble()", x.trouble(), trouble);
  }

  /** A call that isn't refused. */
  public void fine(GoatCourt x, String call, Object got, Object want) {
    due(call, got, want);
    due(call + ", then trouble()", x.trouble(), 0);
  }

  public static Object put(GoatCourt x, int i, boolean dogs) {
    try {
      return x.put(i, dogs);
    } catch (NoSuchElementException e) {
      return THROWS;
    }
  }

  /** Feeds a text, filled up with blanks: how many bytes it has itself. */
  public static int feed(GoatCourt x, String text) {
    byte[] bytes = text.getBytes(StandardCharsets.ISO_8859_1);
    for (int i = 0; i < bytes.length; i += 20) {
      x.feed(four(bytes, i), four(bytes, i + 4), four(bytes, i + 8), four(bytes, i + 12), four(bytes, i + 16));
    }
    return bytes.length;
  }

  public static int four(byte[] bytes, int at) {
    int four = 0;
    for (int i = at; i < at + 4; i++) {
      four = four << 8 | (i < bytes.length ? bytes[i] & 255 : 32);
    }
    return four;
  }

  public static int hill(GoatCourt x, String text) {
    return x.hill(feed(x, text));
  }

  /** A text is a HILL with so many CASES: an object that has it. */
  public GoatCourt taken(String text, int cases) {
    GoatCourt x = new GoatCourt();
    int got = hill(x, text);
    due("hill of '" + text + "' (fault " + x.fault() + " at " + x.where() + ")", got, cases);
    due("trouble() of '" + text + "'", x.trouble(), 0);
    due("fault() of '" + text + "'", x.fault(), 0);
    due("where() of '" + text + "'", x.where(), -1);
    return x;
  }

  /** A text has a FAULT at the sign ahead of which | stands in it, whatever comes behind. */
  public void faulty(String marked, int fault) {
    int at = marked.indexOf('|');
    String text = marked.substring(0, at) + marked.substring(at + 1);
    faultAt(text, fault, at);
    if (at < text.length() && text.length() <= 1180) {
      faultAt(text + ";place A;;", fault, at);
    }
  }

  /** A text has a FAULT at a place. */
  public void faultAt(String text, int fault, int at) {
    GoatCourt x = new GoatCourt();
    due("hill of '" + text + "'", hill(x, text), -1);
    due("trouble() of '" + text + "'", x.trouble(), 4);
    due("fault() of '" + text + "'", x.fault(), fault);
    due("where() of '" + text + "'", x.where(), at);
  }

  public void end() {
    System.out.println(wrong == 0 ? made + " answers are as due" : wrong + " of " + made + " answers are not as due");
    if (wrong != 0) {
      System.exit(1);
    }
  }
}
